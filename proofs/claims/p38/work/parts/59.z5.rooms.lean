noncomputable section
/-! THE ROOMS' CELLS on both sides -/
def RRm (s : mG) : Prop := (∀ n : Nat, n ≤ 8 → s.1 14 3 = cn n → ∀ j, j < 4 * n → s.1 89 (203 + j) = s.1 15 j) ∧ (s.1 88 4 ≠ 0 → ∀ n : Nat, n ≤ 8 → s.1 31 3 = cn n → ∀ j, j < 4 * n → s.1 90 (203 + j) = s.1 32 j)
def JL3 (s : mG) : Prop := JL s ∧ RRm s
theorem RR_C {s s' : mG} (h : RRm s) (r14 : s'.1 14 = s.1 14) (r15 : s'.1 15 = s.1 15) (r31 : s'.1 31 = s.1 31) (r32 : s'.1 32 = s.1 32) (up : ∀ j, 88 ≤ j → s'.1 j = s.1 j) : RRm s' := by
  unfold RRm
  rw [r14, r15, r31, r32, up 88 (by decide), up 89 (by decide), up 90 (by decide)]
  exact h
theorem RR_M {s s' : mG} (h : RRm s) (low : ∀ j, j < 88 → s'.1 j = s.1 j) (sk : ∀ j, 203 ≤ j → j ≤ 234 → s'.1 89 j = s.1 89 j) (e4 : s'.1 88 4 = s.1 88 4) (e90 : s'.1 90 = s.1 90) : RRm s' := by
  refine ⟨fun n hn e j hj => ?_, fun e n hn e3 j hj => ?_⟩
  · rw [low 15 (by decide), sk (203 + j) (by omega) (by omega)]
    rw [low 14 (by decide)] at e
    exact h.1 n hn e j hj
  · rw [low 32 (by decide), e90]
    rw [low 31 (by decide)] at e3
    rw [e4] at e
    exact h.2 e n hn e3 j hj
theorem V_roomC {a1 a2 a3 a4 : Int32} {s : mG} {n : Nat} (hn : n ≤ 8) (w0 : s.1 14 0 = cn 8) (w1 : s.1 14 1 = cn 4) (h3 : s.1 14 3 = cn n) : pk (F_X11_room a1 a2 a3 a4 s) (fun τ => (τ.1 = ci (-1) ∧ τ.2 = s) ∨ (τ.1 = ci 0 ∧ τ.2 = (mu s.1 14 3 (ci 0), s.2)) ∨ (n < 8 ∧ τ.1 = cn (n + 1) ∧ τ.2 = (mu (mu (mu (mu (mu s.1 14 3 (cn (n + 1))) 15 (n * 4 + 0) a1) 15 (n * 4 + 1) a2) 15 (n * 4 + 2) a3) 15 (n * 4 + 3) a4, s.2))) := by
  unfold F_X11_room F_X11_room_73
  have no : pk (some (ci (-1), s)) (fun τ : Int32 × mG => (τ.1 = ci (-1) ∧ τ.2 = s) ∨ (τ.1 = ci 0 ∧ τ.2 = (mu s.1 14 3 (ci 0), s.2)) ∨ (n < 8 ∧ τ.1 = cn (n + 1) ∧ τ.2 = (mu (mu (mu (mu (mu s.1 14 3 (cn (n + 1))) 15 (n * 4 + 0) a1) 15 (n * 4 + 1) a2) 15 (n * 4 + 2) a3) 15 (n * 4 + 3) a4, s.2))) := pk_some (Or.inl ⟨rfl, rfl⟩)
  refine pk_ite ?_ ?_
  · unfold F_X10_clear
    dsimp only
    rw [b1_some]
    exact pk_some (Or.inr (Or.inl ⟨rfl, rfl⟩))
  refine pk_b1 pk_top (fun _ _ => pk_ite no (pk_b1 pk_top (fun _ _ => pk_ite no (pk_b1 pk_top (fun _ _ => pk_ite no (pk_b1 pk_top (fun _ _ => pk_ite no ?_)))))))
  rw [V_full w0 h3 (by omega) (by decide), b1_some]
  by_cases kf : n < 8
  · have PUT : ∀ (D : Nat → Nat → Int32) (c : Nat) (cc v : Int32), cc = cn c → D 14 1 = cn 4 → D 14 3 = cn (n + 1) → c < 4 → F_X10_put 14 (cn n) cc v (D, s.2) = some (mu D 15 (n * 4 + c) v, s.2) := fun D c cc v e d1 d3 hc =>
      V_put (t := 14) (s := (D, s.2)) (r := n) (c := c) (n := n + 1) (W := 4) rfl e d1 d3 (by omega) hc (by rw [show m_alen (14 + 1) = 32 by decide +kernel]; omega) (by omega)
    have z1 : mu s.1 14 3 (cn (n + 1)) 14 1 = cn 4 := (mu_cell (by omega)).trans w1
    have z3 : mu s.1 14 3 (cn (n + 1)) 14 3 = cn (n + 1) := mu_same
    have p0 := PUT (mu s.1 14 3 (cn (n + 1))) 0 (ci 0) a1 rfl z1 z3 (by omega)
    have r0 : mu (mu s.1 14 3 (cn (n + 1))) 15 (n * 4 + 0) a1 14 = mu s.1 14 3 (cn (n + 1)) 14 := mu_row (by decide)
    have p1 := PUT (mu (mu s.1 14 3 (cn (n + 1))) 15 (n * 4 + 0) a1) 1 (ci 1) a2 rfl (by rw [r0]; exact z1) (by rw [r0]; exact z3) (by omega)
    have r1 : mu (mu (mu s.1 14 3 (cn (n + 1))) 15 (n * 4 + 0) a1) 15 (n * 4 + 1) a2 14 = mu s.1 14 3 (cn (n + 1)) 14 := (mu_row (by decide)).trans r0
    have p2 := PUT (mu (mu (mu s.1 14 3 (cn (n + 1))) 15 (n * 4 + 0) a1) 15 (n * 4 + 1) a2) 2 (ci 2) a3 rfl (by rw [r1]; exact z1) (by rw [r1]; exact z3) (by omega)
    have r2 : mu (mu (mu (mu s.1 14 3 (cn (n + 1))) 15 (n * 4 + 0) a1) 15 (n * 4 + 1) a2) 15 (n * 4 + 2) a3 14 = mu s.1 14 3 (cn (n + 1)) 14 := (mu_row (by decide)).trans r1
    have p3 := PUT (mu (mu (mu (mu s.1 14 3 (cn (n + 1))) 15 (n * 4 + 0) a1) 15 (n * 4 + 1) a2) 15 (n * 4 + 2) a3) 3 (ci 3) a4 rfl (by rw [r2]; exact z1) (by rw [r2]; exact z3) (by omega)
    have r3 : mu (mu (mu (mu (mu s.1 14 3 (cn (n + 1))) 15 (n * 4 + 0) a1) 15 (n * 4 + 1) a2) 15 (n * 4 + 2) a3) 15 (n * 4 + 3) a4 14 = mu s.1 14 3 (cn (n + 1)) 14 := (mu_row (by decide)).trans r2
    rw [if_pos kf, if_pos ze38, V_add w0 h3 (by decide) kf, b2_some, p0, b1_some, p1, b1_some, p2, b1_some, p3, b1_some]
    refine pk_some (Or.inr (Or.inr ⟨kf, ?_, rfl⟩))
    dsimp only
    rw [r3]
    exact z3
  · rw [if_neg kf, if_neg nz38]
    exact no
theorem V_roomR {a1 a2 a3 a4 : Int32} {s : mG} {n : Nat} (hn : n ≤ 8) (h118 : s.1 89 118 = cn n) : pk (F_X12_room a1 a2 a3 a4 s) (fun τ => (τ.1 = ci (-1) ∧ τ.2 = s) ∨ (τ.1 = ci 0 ∧ τ.2 = (mu s.1 89 118 (ci 0), s.2)) ∨ (n < 8 ∧ τ.1 = cn (n + 1) ∧ τ.2 = (mu (mu (mu (mu (mu s.1 89 (203 + 4 * n + 0) a1) 89 (203 + 4 * n + 1) a2) 89 (203 + 4 * n + 2) a3) 89 (203 + 4 * n + 3) a4) 89 118 (cn (n + 1)), s.2))) := by
  unfold F_X12_room F_X12_room_67
  have no : pk (some (ci (-1), s)) (fun τ : Int32 × mG => (τ.1 = ci (-1) ∧ τ.2 = s) ∨ (τ.1 = ci 0 ∧ τ.2 = (mu s.1 89 118 (ci 0), s.2)) ∨ (n < 8 ∧ τ.1 = cn (n + 1) ∧ τ.2 = (mu (mu (mu (mu (mu s.1 89 (203 + 4 * n + 0) a1) 89 (203 + 4 * n + 1) a2) 89 (203 + 4 * n + 2) a3) 89 (203 + 4 * n + 3) a4) 89 118 (cn (n + 1)), s.2))) := pk_some (Or.inl ⟨rfl, rfl⟩)
  refine pk_ite (pk_some (Or.inr (Or.inl ⟨rfl, rfl⟩))) ?_
  refine pk_b1 pk_top (fun _ _ => pk_ite no (pk_b1 pk_top (fun _ _ => pk_ite no (pk_b1 pk_top (fun _ _ => pk_ite no (pk_b1 pk_top (fun _ _ => pk_ite no ?_)))))))
  rw [h118]
  by_cases kf : n = 8
  · subst kf
    rw [if_pos (by decide)]
    exact no
  · rw [if_neg (fun q => kf ((cn_inj (by omega) (by decide)).mp (q.trans (show c8 8 = cn 8 by decide))))]
    have e16 : c16 203 + (ci 4) * cn n = cn (203 + 4 * n) := by
      rw [show (ci 4) * cn n = cn (4 * n) from cn_mul (a := 4) (by omega) (by omega) (by omega)]
      exact cn_add (a := 203) (by omega)
    have k0 : cn (203 + 4 * n) + ci 0 = cn (203 + 4 * n + 0) := cn_add (b := 0) (by omega)
    have k1 : cn (203 + 4 * n) + ci 1 = cn (203 + 4 * n + 1) := cn_add (b := 1) (by omega)
    have k2 : cn (203 + 4 * n) + ci 2 = cn (203 + 4 * n + 2) := cn_add (b := 2) (by omega)
    have k3 : cn (203 + 4 * n) + ci 3 = cn (203 + 4 * n + 3) := cn_add (b := 3) (by omega)
    rw [e16]
    dsimp only
    rw [k0, k1, k2, k3, if_neg (cn_ix (by omega) (by omega)), if_neg (cn_ix (by omega) (by omega)), if_neg (cn_ix (by omega) (by omega)), if_neg (cn_ix (by omega) (by omega)), cn_nat (by omega), cn_nat (by omega), cn_nat (by omega), cn_nat (by omega)]
    have e118 : mu (mu (mu (mu s.1 89 (203 + 4 * n + 0) a1) 89 (203 + 4 * n + 1) a2) 89 (203 + 4 * n + 2) a3) 89 (203 + 4 * n + 3) a4 89 118 + ci 1 = cn (n + 1) := by
      rw [mu_cell (by omega), mu_cell (by omega), mu_cell (by omega), mu_cell (by omega), h118, cnu (by omega)]
    rw [e118]
    exact pk_some (Or.inr (Or.inr ⟨by omega, by dsimp only; exact mu_same, rfl⟩))
theorem P3_room {a1 a2 a3 a4 : Int32} {s : mG} (h : JL3 s) : ok (F_X11_room a1 a2 a3 a4 s) (fun τ => ok (F_X12_room a1 a2 a3 a4 τ.2) (fun υ => JL3 υ.2 ∧ True)) := by
  obtain ⟨hJ0, hR⟩ := h
  obtain ⟨τ, e1, υ, e2, hJ, hE⟩ := P_room (a1 := a1) (a2 := a2) (a3 := a3) (a4 := a4) hJ0
  obtain ⟨w0, w1, n, hn, h3⟩ := hJ0.2.2.1.1.2.1
  have z2 : s.1 14 3 = s.1 89 118 := hJ0.2.2.2.1.2.1
  have c := V_roomC hn w0 w1 h3 τ e1
  have r89 : τ.2.1 89 118 = cn n := by
    rw [← h3, z2]
    rcases c with ⟨_, c2⟩ | ⟨_, c2⟩ | ⟨_, _, c2⟩
    · rw [c2]
    · rw [c2]
      show mu s.1 14 3 (ci 0) 89 118 = _
      rw [mu_row (by decide)]
    · rw [c2]
      dsimp only
      rw [mu_row (by decide), mu_row (by decide), mu_row (by decide), mu_row (by decide), mu_row (by decide)]
  have d := V_roomR hn r89 υ e2
  refine ⟨τ, e1, υ, e2, ⟨hJ, ?_⟩, trivial⟩
  have n1 : ∀ m : Nat, m < 9 → ¬ ci (-1) = cn (m + 1) ∧ ¬ ci 0 = cn (m + 1) := by decide
  have n2 : ¬ ci (-1) = ci 0 := by decide
  rcases c with ⟨c1, c2⟩ | ⟨c1, c2⟩ | ⟨c0, c1, c2⟩
  · rcases d with ⟨d1, d2⟩ | ⟨d1, d2⟩ | ⟨d0, d1, d2⟩
    · rw [d2, c2]; exact hR
    · exact absurd (c1.symm.trans (hE.trans d1)) n2
    · exact absurd (c1.symm.trans (hE.trans d1)) (n1 n (by omega)).1
  · rcases d with ⟨d1, d2⟩ | ⟨d1, d2⟩ | ⟨d0, d1, d2⟩
    · exact absurd (d1.symm.trans (hE.symm.trans c1)) n2
    · have row : ∀ j, j ≠ 14 → j ≠ 89 → υ.2.1 j = s.1 j := fun j h1 h2 => by
        rw [d2]
        show mu τ.2.1 89 118 (ci 0) j = _
        rw [mu_row h2, c2]
        exact mu_row h1
      have e14 : υ.2.1 14 3 = ci 0 := by
        rw [d2]
        show mu τ.2.1 89 118 (ci 0) 14 3 = _
        rw [mu_row (by decide), c2]
        exact mu_sameP
      refine ⟨fun m hm e j hj => ?_, fun e m hm e3 j hj => ?_⟩
      · have hm0 : m = 0 := (cn_inj (by omega) (by omega)).mp (e.symm.trans e14)
        omega
      · rw [row 32 (by decide) (by decide), row 90 (by decide) (by decide)]
        rw [row 31 (by decide) (by decide)] at e3
        rw [row 88 (by decide) (by decide)] at e
        exact hR.2 e m hm e3 j hj
    · exact absurd (c1.symm.trans (hE.trans d1)) (n1 n (by omega)).2
  · rcases d with ⟨d1, d2⟩ | ⟨d1, d2⟩ | ⟨d0, d1, d2⟩
    · exact absurd (d1.symm.trans (hE.symm.trans c1)) (n1 n (by omega)).1
    · exact absurd (d1.symm.trans (hE.symm.trans c1)) (n1 n (by omega)).2
    · have row : ∀ j, j ≠ 14 → j ≠ 15 → j ≠ 89 → υ.2.1 j = s.1 j := fun j h1 h2 h4 => by
        rw [d2]
        dsimp only
        rw [mu_row h4, mu_row h4, mu_row h4, mu_row h4, mu_row h4, c2]
        dsimp only
        rw [mu_row h2, mu_row h2, mu_row h2, mu_row h2, mu_row h1]
      have e14 : υ.2.1 14 3 = cn (n + 1) := by
        rw [d2]
        dsimp only
        rw [mu_row (by decide), mu_row (by decide), mu_row (by decide), mu_row (by decide), mu_row (by decide), c2]
        dsimp only
        rw [mu_row (by decide), mu_row (by decide), mu_row (by decide), mu_row (by decide)]
        exact mu_same
      have e15 : υ.2.1 15 = mu (mu (mu (mu s.1 15 (n * 4 + 0) a1) 15 (n * 4 + 1) a2) 15 (n * 4 + 2) a3) 15 (n * 4 + 3) a4 15 := by
        rw [d2]
        dsimp only
        rw [mu_row (by decide), mu_row (by decide), mu_row (by decide), mu_row (by decide), mu_row (by decide), c2]
        funext j
        dsimp only
        rw [mu_ap, mu_ap, mu_ap, mu_ap, mu_ap, mu_ap, mu_ap, mu_ap, mu_ap, if_neg (show ¬ ((15 : Nat) = 14 ∧ j = 3) by omega)]
      have e89 : ∀ j, υ.2.1 89 (203 + j) = mu (mu (mu (mu s.1 89 (203 + 4 * n + 0) a1) 89 (203 + 4 * n + 1) a2) 89 (203 + 4 * n + 2) a3) 89 (203 + 4 * n + 3) a4 89 (203 + j) := fun j => by
        have t89 : τ.2.1 89 = s.1 89 := by
          rw [c2]
          dsimp only
          rw [mu_row (by decide), mu_row (by decide), mu_row (by decide), mu_row (by decide), mu_row (by decide)]
        rw [d2]
        dsimp only
        rw [mu_cell (by omega), mu_ap, mu_ap, mu_ap, mu_ap, mu_ap, mu_ap, mu_ap, mu_ap, t89]
      refine ⟨fun m hm e j hj => ?_, fun e m hm e3 j hj => ?_⟩
      · have hm1 : m = n + 1 := (cn_inj (by omega) (by omega)).mp (e.symm.trans e14)
        subst hm1
        rw [e89, e15, mu_ap, mu_ap, mu_ap, mu_ap, mu_ap, mu_ap, mu_ap, mu_ap]
        by_cases q3 : j = n * 4 + 3
        · rw [if_pos (show (89 : Nat) = 89 ∧ 203 + j = 203 + 4 * n + 3 by omega), if_pos (show (15 : Nat) = 15 ∧ j = n * 4 + 3 by omega)]
        rw [if_neg (show ¬ ((89 : Nat) = 89 ∧ 203 + j = 203 + 4 * n + 3) by omega), if_neg (show ¬ ((15 : Nat) = 15 ∧ j = n * 4 + 3) by omega)]
        by_cases q2 : j = n * 4 + 2
        · rw [if_pos (show (89 : Nat) = 89 ∧ 203 + j = 203 + 4 * n + 2 by omega), if_pos (show (15 : Nat) = 15 ∧ j = n * 4 + 2 by omega)]
        rw [if_neg (show ¬ ((89 : Nat) = 89 ∧ 203 + j = 203 + 4 * n + 2) by omega), if_neg (show ¬ ((15 : Nat) = 15 ∧ j = n * 4 + 2) by omega)]
        by_cases q1 : j = n * 4 + 1
        · rw [if_pos (show (89 : Nat) = 89 ∧ 203 + j = 203 + 4 * n + 1 by omega), if_pos (show (15 : Nat) = 15 ∧ j = n * 4 + 1 by omega)]
        rw [if_neg (show ¬ ((89 : Nat) = 89 ∧ 203 + j = 203 + 4 * n + 1) by omega), if_neg (show ¬ ((15 : Nat) = 15 ∧ j = n * 4 + 1) by omega)]
        by_cases q0 : j = n * 4 + 0
        · rw [if_pos (show (89 : Nat) = 89 ∧ 203 + j = 203 + 4 * n + 0 by omega), if_pos (show (15 : Nat) = 15 ∧ j = n * 4 + 0 by omega)]
        rw [if_neg (show ¬ ((89 : Nat) = 89 ∧ 203 + j = 203 + 4 * n + 0) by omega), if_neg (show ¬ ((15 : Nat) = 15 ∧ j = n * 4 + 0) by omega)]
        exact hR.1 n hn h3 j (by omega)
      · rw [row 32 (by decide) (by decide) (by decide), row 90 (by decide) (by decide) (by decide)]
        rw [row 31 (by decide) (by decide) (by decide)] at e3
        rw [row 88 (by decide) (by decide) (by decide)] at e
        exact hR.2 e m hm e3 j hj
/-! the image -/
theorem V_giveR {s : mG} (h : C1 s) : pk (b1 (F_X2_copyFrom 1 18 s) fun s4 => b1 (F_X5_forget s4) fun s6 => some ((ci 1), s6)) (fun τ => τ.2.1 14 3 = s.1 31 3 ∧ τ.2.1 31 = s.1 31 ∧ τ.2.1 32 = s.1 32 ∧ ∀ n : Nat, n ≤ 8 → s.1 31 3 = cn n → ∀ j, j < 4 * n → τ.2.1 15 j = s.1 32 j) := by
  obtain ⟨⟨a1, a2, a3⟩, ⟨⟨_, _, n1, b1, b1'⟩, ⟨_, _, n2, b2, b2'⟩, ⟨_, _, n3, b3, b3'⟩⟩, _⟩ := h
  refine pk_b1 (V_house (h := 1) (a := 18) (ng := n1) (nr := n2) (nc := n3) (by omega) ⟨by decide +kernel, by decide +kernel⟩ ⟨by decide +kernel, by decide +kernel⟩ ⟨by decide +kernel, by decide +kernel⟩ a1 a2 a3 b1' b2' b3' b1 b2 b3) (fun u hu => ?_)
  obtain ⟨q1, q2, q3, q4, q5, q6, q7, q8⟩ := hu
  unfold F_X5_forget
  dsimp only
  rw [b1_some]
  have r : ∀ j, j ≠ 35 → mu u.1 35 1 (ci 0) j = u.1 j := fun j hj => mu_row hj
  refine pk_some ⟨(congrFun (r 14 (by decide)) 3).trans q5, (r 31 (by decide)).trans (q1 31 (by omega)), (r 32 (by decide)).trans (q1 32 (by omega)), fun n hn e j hj => ?_⟩
  have en : n = n2 := (cn_inj (by omega) (by omega)).mp (e.symm.trans b2')
  exact (congrFun (r 15 (by decide)) j).trans (q8 j (by omega))
theorem V_takeR {s : mG} (h : C1 s) : pk (b1 (F_X2_copyFrom 18 1 s) fun s8 => let s9 : mG := (mu s8.1 0 2 (ci 1), s8.2); some ((ci 1), s9)) (fun τ => τ.2.1 31 3 = s.1 14 3 ∧ τ.2.1 14 = s.1 14 ∧ τ.2.1 15 = s.1 15 ∧ ∀ n : Nat, n ≤ 8 → s.1 14 3 = cn n → ∀ j, j < 4 * n → τ.2.1 32 j = s.1 15 j) := by
  obtain ⟨⟨⟨_, _, n1, b1, b1'⟩, ⟨_, _, n2, b2, b2'⟩, ⟨_, _, n3, b3, b3'⟩⟩, ⟨a1, a2, a3⟩, _⟩ := h
  refine pk_b1 (V_house (h := 18) (a := 1) (ng := n1) (nr := n2) (nc := n3) (by omega) ⟨by decide +kernel, by decide +kernel⟩ ⟨by decide +kernel, by decide +kernel⟩ ⟨by decide +kernel, by decide +kernel⟩ a1 a2 a3 b1' b2' b3' b1 b2 b3) (fun u hu => ?_)
  obtain ⟨q1, q2, q3, q4, q5, q6, q7, q8⟩ := hu
  dsimp only
  have r : ∀ j, j ≠ 0 → mu u.1 0 2 (ci 1) j = u.1 j := fun j hj => mu_row hj
  refine pk_some ⟨(congrFun (r 31 (by decide)) 3).trans q5, (r 14 (by decide)).trans (q1 14 (by omega)), (r 15 (by decide)).trans (q1 15 (by omega)), fun n hn e j hj => ?_⟩
  have en : n = n2 := (cn_inj (by omega) (by omega)).mp (e.symm.trans b2')
  exact (congrFun (r 32 (by decide)) j).trans (q8 j (by omega))
theorem P3_image {a1 : Int32} {s : mG} (ha : a1 = ci 0 ∨ a1 = ci 1) (h : JL3 s) : ok (F_X11_image a1 s) (fun τ => ok (F_X12_image a1 τ.2) (fun υ => JL3 υ.2 ∧ True)) := by
  obtain ⟨hJ0, hR⟩ := h
  obtain ⟨τ, e1, υ, e2, hJ, hE⟩ := P_image ha hJ0
  have z5 : s.1 0 2 = s.1 88 4 := hJ0.2.2.2.2.2.1
  have q : RC true s τ.2 := by
    obtain ⟨τ', e', q⟩ := T_X11_image (a1 := a1) hJ0.1
    have : τ' = τ := Option.some.inj (e'.symm.trans e1)
    exact this ▸ q.2
  have p : RW τ.2 υ.2 := by
    obtain ⟨υ', e', p⟩ := T_X12_image (a1 := a1) (IM_rows q.2.1 hJ0.2.1)
    have : υ' = υ := Option.some.inj (e'.symm.trans e2)
    exact this ▸ p.2
  have low := p.2.1
  refine ⟨τ, e1, υ, e2, ⟨hJ, ?_⟩, trivial⟩
  rcases ha with ha | ha
  · subst ha
    by_cases k0 : s.1 0 2 = 0
    · have e11 : F_X11_image (ci 0) s = some (ci 0, s) := by
        unfold F_X11_image
        rw [if_pos (by decide), if_pos k0]
      have t1 : τ = (ci 0, s) := Option.some.inj (e1.symm.trans e11)
      subst t1
      have e12 : F_X12_image (ci 0) s = some (ci 0, s) := by
        unfold F_X12_image
        rw [if_pos (by decide), if_pos (z5.symm.trans k0)]
      have t2 : υ = (ci 0, s) := Option.some.inj (e2.symm.trans e12)
      subst t2
      exact hR
    · have k4 : s.1 88 4 ≠ 0 := fun e => k0 (z5.trans e)
      have r88 : τ.2.1 88 = s.1 88 := q.2.1 88 (by decide)
      have r90 : τ.2.1 90 = s.1 90 := q.2.1 90 (by decide)
      have k : pk (F_X11_image (ci 0) s) (fun τ => τ.2.1 14 3 = s.1 31 3 ∧ τ.2.1 31 = s.1 31 ∧ τ.2.1 32 = s.1 32 ∧ ∀ n : Nat, n ≤ 8 → s.1 31 3 = cn n → ∀ j, j < 4 * n → τ.2.1 15 j = s.1 32 j) := by
        unfold F_X11_image
        rw [if_pos (by decide), if_neg k0]
        exact V_giveR hJ0.2.2.1
      obtain ⟨k1, k2, k3, k5⟩ := k τ e1
      have m : pk (F_X12_image (ci 0) τ.2) (fun υ => υ.1 = ci 1 ∧ υ.2.1 88 4 = ci 1 ∧ υ.2.1 90 = τ.2.1 90 ∧ ∀ k, k < 1894 → υ.2.1 89 k = τ.2.1 90 k) := by
        unfold F_X12_image
        rw [if_pos (by decide), if_neg (by rw [r88]; exact k4)]
        exact V_X12_give
      obtain ⟨m1, m2, m3, m4⟩ := m υ e2
      refine ⟨fun n hn e j hj => ?_, fun _ n hn e j hj => ?_⟩
      · rw [low 14 (by decide), k1] at e
        rw [low 15 (by decide), m4 _ (by omega), r90, k5 n hn e j hj]
        exact hR.2 k4 n hn e j hj
      · rw [low 31 (by decide), k2] at e
        rw [low 32 (by decide), k3, m3, r90]
        exact hR.2 k4 n hn e j hj
  · subst ha
    have n0 : ¬ ci 1 = 0 := by decide
    have r89 : τ.2.1 89 = s.1 89 := q.2.1 89 (by decide)
    have k : pk (F_X11_image (ci 1) s) (fun τ => τ.2.1 31 3 = s.1 14 3 ∧ τ.2.1 14 = s.1 14 ∧ τ.2.1 15 = s.1 15 ∧ ∀ n : Nat, n ≤ 8 → s.1 14 3 = cn n → ∀ j, j < 4 * n → τ.2.1 32 j = s.1 15 j) := by
      unfold F_X11_image
      rw [if_neg n0]
      exact V_takeR hJ0.2.2.1
    obtain ⟨k1, k2, k3, k5⟩ := k τ e1
    have m : pk (F_X12_image (ci 1) τ.2) (fun υ => υ.1 = ci 1 ∧ υ.2.1 88 4 = ci 1 ∧ υ.2.1 89 = τ.2.1 89 ∧ ∀ k, k < 1894 → υ.2.1 90 k = τ.2.1 89 k) := by
      unfold F_X12_image
      rw [if_neg n0]
      exact V_X12_take n0
    obtain ⟨m1, m2, m3, m4⟩ := m υ e2
    refine ⟨fun n hn e j hj => ?_, fun _ n hn e j hj => ?_⟩
    · rw [low 14 (by decide), k2] at e
      rw [low 15 (by decide), k3, m3, r89]
      exact hR.1 n hn e j hj
    · rw [low 31 (by decide), k1] at e
      rw [low 32 (by decide), m4 _ (by omega), r89, k5 n hn e j hj]
      exact hR.1 n hn e j hj
/-! guests and callers leave the rooms -/
theorem P3_guest {a1 a2 : Int32} {s : mG} (h : JL3 s) : ok (F_X11_guest a1 a2 s) (fun τ => ok (F_X12_guest a1 a2 τ.2) (fun υ => JL3 υ.2 ∧ True)) := by
  obtain ⟨τ, e1, υ, e2, hJ, hE⟩ := P_guest (a1 := a1) (a2 := a2) h.1
  obtain ⟨τ', e', q⟩ := T_X11_guest (a1 := a1) (a2 := a2) h.1.1
  have t1 : τ' = τ := Option.some.inj (e'.symm.trans e1)
  subst t1
  obtain ⟨υ', e'', p⟩ := T_X12_guest (a1 := a1) (a2 := a2) (IM_rows q.2.1 h.1.2.1)
  have t2 : υ' = υ := Option.some.inj (e''.symm.trans e2)
  subst t2
  have w : KB 34359738380 s τ'.2 := W_X11_guest (M := 34359738380) (z := s) sub_rfl KB_rfl τ' e1
  have e4 : υ'.2.1 88 4 = τ'.2.1 88 4 := K_X12_guest kv0 υ' e2
  have w2 : KB 928455029464035206174343168 τ'.2 υ'.2 := W_X12_guest (M := 928455029464035206174343168) (z := τ'.2) sub_rfl KB_rfl υ' e2
  have c := RR_C h.2 (w 14 (by decide +kernel)) (w 15 (by decide +kernel)) (w 31 (by decide +kernel)) (w 32 (by decide +kernel)) q.2.1
  exact ⟨τ', e1, υ', e2, ⟨hJ, RR_M c p.1.2.1 (fun j h1 h2 => p.2.2.2 j (by unfold SK; omega) (by omega)) e4 (w2 90 (by decide +kernel))⟩, trivial⟩
theorem P3_caller {a1 a2 a3 : Int32} {s : mG} (h : JL3 s) : ok (F_X11_caller a1 a2 a3 s) (fun τ => ok (F_X12_caller a1 a2 a3 τ.2) (fun υ => JL3 υ.2 ∧ True)) := by
  obtain ⟨τ, e1, υ, e2, hJ, hE⟩ := P_caller (a1 := a1) (a2 := a2) (a3 := a3) h.1
  obtain ⟨τ', e', q⟩ := T_X11_caller (a1 := a1) (a2 := a2) (a3 := a3) h.1.1
  have t1 : τ' = τ := Option.some.inj (e'.symm.trans e1)
  subst t1
  obtain ⟨υ', e'', p⟩ := T_X12_caller (a1 := a1) (a2 := a2) (a3 := a3) (IM_rows q.2.1 h.1.2.1)
  have t2 : υ' = υ := Option.some.inj (e''.symm.trans e2)
  subst t2
  have w : KB 196608 s τ'.2 := W_X11_caller (M := 196608) (z := s) sub_rfl KB_rfl τ' e1
  have e4 : υ'.2.1 88 4 = τ'.2.1 88 4 := K_X12_caller kv0 υ' e2
  have w2 : KB 618970019642690137449562112 τ'.2 υ'.2 := W_X12_caller (M := 618970019642690137449562112) (z := τ'.2) sub_rfl KB_rfl υ' e2
  have c := RR_C h.2 (w 14 (by decide +kernel)) (w 15 (by decide +kernel)) (w 31 (by decide +kernel)) (w 32 (by decide +kernel)) q.2.1
  exact ⟨τ', e1, υ', e2, ⟨hJ, RR_M c p.1.2.1 (fun j h1 h2 => p.2.2.2 j (by unfold SK; omega) (by omega) (by omega)) e4 (w2 90 (by decide +kernel))⟩, trivial⟩
/-! done -/
def dN (s : mG) : Nat := (s.1 14 3).toInt.toNat
def dv (s : mG) (a1 : Int32) : Int32 := if wi a1 (ci 0) (ci 1) = 0 then ci (-1) else if a1 = 0 then wrS (s.1 15) (brS (s.1 15) (dN s) (2 ^ dN s - 1)) (dN s) else brS (s.1 15) (dN s) (2 ^ dN s - 1)
theorem A3_X11_done {a1 : Int32} {s : mG} (h : JL3 s) : ok (F_X11_done s a1) (fun v => v = dv s a1) := by
  obtain ⟨w0, w1, n, hn, h3⟩ := h.1.2.2.1.1.2.1
  have e : dN s = n := by
    unfold dN
    rw [h3, cn_t (by omega)]
    rfl
  obtain ⟨v, e1, _⟩ := T_X11_done (a1 := a1) h.1.1
  refine ⟨v, e1, ?_⟩
  unfold dv
  rw [e]
  exact V_doneC ⟨hn, h3, w1⟩ v e1
theorem A3_X12_done {a1 : Int32} {s : mG} (h : JL3 s) : ok (F_X12_done s a1) (fun v => v = dv s a1) := by
  obtain ⟨w0, w1, n, hn, h3⟩ := h.1.2.2.1.1.2.1
  have z2 : s.1 14 3 = s.1 89 118 := h.1.2.2.2.1.2.1
  have e : dN s = n := by
    unfold dN
    rw [h3, cn_t (by omega)]
    rfl
  obtain ⟨v, e1, _⟩ := T_X12_done (a1 := a1) h.1.2.1
  refine ⟨v, e1, ?_⟩
  unfold dv
  rw [e]
  exact V_doneR ⟨hn, z2.symm.trans h3, h.2.1 n hn h3⟩ v e1
/-! the start -/
theorem RR_s0 : RRm s0 := by
  have e14 : s0.1 14 3 = cn 0 := by decide +kernel
  have e4 : s0.1 88 4 = 0 := by decide +kernel
  refine ⟨fun n hn e j hj => ?_, fun e => absurd e4 e⟩
  have : n = 0 := (cn_inj (by omega) (by omega)).mp (e.symm.trans e14)
  omega
end
