noncomputable section
/-! THE LAW'S LINES, read by both -/
section LINES
variable {T : Nat → Int32} {len r m : Nat} {B : Nat → Nat}
theorem K_when {kc kr : Int32} (h : KP 0 kc kr) : kr = ci 3 ↔ kc = c16 271 := KP_iff (v := 3) (z := 271) (by decide) (by decide) (by decide +kernel) h
theorem K_semi {kc kr : Int32} (hr : r < 3) (h : KP r kc kr) : kr = c16 159 ↔ kc = c8 59 := by
  have e : r = 0 ∨ r = 1 ∨ r = 2 := by omega
  rcases e with e | e | e <;> subst e <;> exact KP_iff (v := 159) (z := 59) (by decide) (by decide) (by decide +kernel) h
theorem K_first {kc kr : Int32} (h : KP 0 kc kr) : ((20 ≤ kr.toInt ∧ kr.toInt ≤ 25) ↔ (256 ≤ kc.toInt ∧ kc.toInt ≤ 261)) ∧ (256 ≤ kc.toInt ∧ kc.toInt ≤ 261 → kr.toInt - 20 = kc.toInt - 256) := KP_rng (by decide +kernel) h
theorem S_fail0 {i : Nat} {a b : mG} {w : Int32} (hS : ST T len r m B) (h1 : CP T len m B i a) (h2 : RP T len r m B i b) : rel (F_X7_refuse w a) (F_X12_bad w b) (fun τ υ => τ.1 = ci 0 ∧ υ.1 = ci 0 ∧ FE τ.2 υ.2) := by
  rw [V_refuse, V_bad]
  have g := (PR_facts hS h1 h2).2.1
  refine rel_some ⟨rfl, rfl, ?_, ?_⟩
  · exact ((mu_cellQ (by omega)).trans mu_same).trans ((mu_cellQ (by omega)).trans mu_same).symm
  · exact mu_sameQ.trans (g.trans mu_sameQ.symm)
theorem CP_rows {i : Nat} {a u : mG} (h : CP T len m B i a) (e55 : u.1 55 = a.1 55) (e65 : u.1 65 = a.1 65) (e66 : u.1 66 = a.1 66) : CP T len m B i u := by
  obtain ⟨h1, h2, h3, h4, h5, h6⟩ := h
  refine ⟨TKA_row h1 e65 e66, h2, ?_, ?_, ?_, ?_⟩
  · rw [e55]; exact h3
  · rw [e55, e66]; exact h4
  · rw [e55, e66]; exact h5
  · rw [e55, e66]; exact h6
theorem CodeR_rows {nc : Nat} {p : List Nat} {a b u w : mG} (h : CodeR nc p a b) (e58 : u.1 58 = a.1 58) (e59 : u.1 59 = a.1 59) (e93 : w.1 93 = b.1 93) (e13 : w.1 88 13 = b.1 88 13) : CodeR nc p u w := by
  unfold CodeR C58
  rw [e58, e59, e93, e13]
  exact h
/-- a ; or whatever must stand here -/
theorem S_pass {i nc k : Nat} {p : List Nat} {a b : mG} {x y : Int32} (hS : ST T len r m B) (h1 : CP T len m B i a) (h2 : RP T len r m B i b) (h3 : CodeR nc p a b) (h4 : nc + k ≤ i + 1) (hx : ¬ x = ci (-1)) (hk : ∀ {kc kr : Int32}, KP r kc kr → (kr = y ↔ kc = x)) : rel (F_X7_pass x a) (F_X12_need y b) (fun τ υ => τ.1 = υ.1 ∧ PB τ.1 ∧ (τ.1 = 0 → FE τ.2 υ.2) ∧ (¬ τ.1 = 0 → SX T len r m B (i + 1) nc k p τ.2 υ.2 ∧ CFr a τ.2 ∧ NF b υ.2)) := by
  have hK := (PR_facts hS h1 h2).1
  unfold F_X7_pass F_X12_need
  refine rel_ifs (hk hK).symm (fun e => ?_) (fun e => ?_)
  · have hi := S_lt hS h1 h2 (by rw [e]; exact hx)
    refine rel_b1 (S_step (k' := k) hS h1 h2 h3 hi h4) (fun u w q => ?_)
    exact rel_some ⟨rfl, pb1, fun e => absurd e c1n0, fun _ => q⟩
  · refine rel_b2 (S_fail0 hS h1 h2) (fun v u v2 w q => ?_)
    obtain ⟨q1, q2, q3⟩ := q
    have q1 : v = ci 0 := q1
    have q2 : v2 = ci 0 := q2
    subst q1; subst q2
    exact rel_lp (rel_rp (rel_some ⟨rfl, pb0, fun _ => q3, fun e => absurd c0e0 e⟩))
def LR (c d : Nat → Int32) (j : Nat) : Prop := c (j * 4 + 1) = d (4 * j) ∧ c (j * 4 + 2) = d (4 * j + 1) ∧ c (j * 4 + 3) = d (4 * j + 2) ∧ ∃ w, w < 6 ∧ c (j * 4 + 0) = cn w ∧ d (4 * j + 3) = cn (20 + w)
/-- L lines here, Lr counted there -/
def LL (L Lr : Nat) (a b : mG) : Prop := L ≤ 16 ∧ a.1 56 0 = cn 16 ∧ a.1 56 1 = cn 4 ∧ a.1 56 3 = cn L ∧ b.1 88 12 = cn Lr ∧ ∀ j, j < L → LR (a.1 57) (b.1 92) j
/-- the L-th line, half read -/
def LHf (L : Nat) (a b : mG) : Prop := L < 16 ∧ a.1 56 0 = cn 16 ∧ a.1 56 1 = cn 4 ∧ a.1 56 3 = cn (L + 1) ∧ b.1 88 12 = cn L ∧ (∀ j, j < L → LR (a.1 57) (b.1 92) j) ∧ (∃ w, w < 6 ∧ a.1 57 (L * 4 + 0) = cn w ∧ b.1 92 (4 * L + 3) = cn (20 + w)) ∧ a.1 57 (L * 4 + 1) = b.1 92 (4 * L)
theorem al_57 : m_alen (56 + 1) = 64 := by decide +kernel
theorem ix4 {b : mG} {L c : Nat} (h : b.1 88 12 = cn L) (hL : L < 16) (hc : c < 4) : (ci 4) * (b.1 88 12) = cn (4 * L) ∧ cn (4 * L) + cn c = cn (4 * L + c) := by
  rw [h]
  exact ⟨cn_mul (a := 4) (by omega) (by omega) (by omega), cn_add (by omega)⟩
/-- what a line comes to -/
def LQf (T : Nat → Int32) (len m : Nat) (B : Nat → Nat) (i0 L : Nat) (τ υ : Int32 × mG) : Prop := τ.1 = υ.1 ∧ PB τ.1 ∧ (τ.1 = 0 → FE τ.2 υ.2) ∧ (¬ τ.1 = 0 → ∃ i' nc', i0 < i' ∧ SX T len 0 m B i' nc' 0 [] τ.2 υ.2 ∧ LL (L + 1) L τ.2 υ.2)
theorem S_lineEnd {i nc i0 L : Nat} {a b : mG} (hS : ST T len 0 m B) (hi0 : i0 ≤ i) (h : SX T len 0 m B i nc 0 [] a b) (hL : LHf L a b) (h2w : a.1 57 (L * 4 + 2) = b.1 92 (4 * L + 1)) : rel (F_X7_readLaw_126 (cn L) a) (F_X12_aLine_123 b) (LQf T len m B i0 L) := by
  obtain ⟨h1, h2, h3, h4⟩ := h
  obtain ⟨l0, l1, l2, l3, l4, l5, ⟨w, lw, l6, l7⟩, l8⟩ := hL
  unfold F_X7_readLaw_126 F_X12_aLine_123
  rw [V_put (r := L) (a2 := ci 3) (c := 3) (n := L + 1) (W := 4) rfl rfl l2 l3 (by omega) (by omega) (by rw [al_57]; omega) (by omega), b1_some]
  refine rel_rg ?_
  have e4 := ix4 (c := 2) l4 l0 (by omega)
  have e4' : (ci 4) * (b.1 88 12) + (ci 2) = cn (4 * L + 2) := by rw [e4.1]; exact e4.2
  rw [e4', cn_nat (by omega), h3.2.1, show b.1 88 13 = cn nc from h3.2.2.1]
  dsimp only
  have c1 : CP T len m B i (mu a.1 57 (L * 4 + 3) (cn nc), a.2) := CP_rows h1 (mu_rowQ (by omega)) (mu_rowQ (by omega)) (mu_rowQ (by omega))
  have c2 : RP T len 0 m B i (mu b.1 92 (4 * L + 2) (cn nc), b.2) := RP_same h2 (mu_rowQ (by omega)) (fun c _ => congrFun (mu_rowQ (by omega)) c)
  have c3 : CodeR nc [] (mu a.1 57 (L * 4 + 3) (cn nc), a.2) (mu b.1 92 (4 * L + 2) (cn nc), b.2) := CodeR_rows h3 (mu_rowQ (by omega)) (mu_rowQ (by omega)) (mu_rowQ (by omega)) (congrFun (mu_rowQ (by omega)) 13)
  refine rel_b2 (P := fun τ υ => τ.1 = υ.1 ∧ PB τ.1 ∧ (τ.1 = 0 → FE τ.2 υ.2) ∧ (¬ τ.1 = 0 → SX T len 0 m B (i + 1) nc 0 [] τ.2 υ.2 ∧ CFr (mu a.1 57 (L * 4 + 3) (cn nc), a.2) τ.2 ∧ NF (mu b.1 92 (4 * L + 2) (cn nc), b.2) υ.2)) (S_pass hS c1 c2 c3 (by omega) (by decide) (K_semi hS.2.1)) (fun v u v2 s q => rel_lp (rel_rp (rel_some ?_)))
  obtain ⟨q1, q2, q3, q4⟩ := q
  refine ⟨q1, q2, q3, fun e => ?_⟩
  obtain ⟨z1, z2, z3⟩ := q4 e
  refine ⟨i + 1, nc, by omega, z1, by omega, ?_, ?_, ?_, ?_, fun j hj => ?_⟩
  · rw [z2.2.1 56 (by omega)]; exact (congrFun (mu_rowQ (by omega)) 0).trans l1
  · rw [z2.2.1 56 (by omega)]; exact (congrFun (mu_rowQ (by omega)) 1).trans l2
  · rw [z2.2.1 56 (by omega)]; exact (congrFun (mu_rowQ (by omega)) 3).trans l3
  · rw [z3.2.2 12 (by omega) (by omega) (by omega) (by omega)]; exact (congrFun (mu_rowQ (by omega)) 12).trans l4
  · rw [z2.2.1 57 (by omega), z3.2.1 92 (by omega)]
    unfold LR
    show mu a.1 57 (L * 4 + 3) (cn nc) 57 (j * 4 + 1) = mu b.1 92 (4 * L + 2) (cn nc) 92 (4 * j) ∧ mu a.1 57 (L * 4 + 3) (cn nc) 57 (j * 4 + 2) = mu b.1 92 (4 * L + 2) (cn nc) 92 (4 * j + 1) ∧ mu a.1 57 (L * 4 + 3) (cn nc) 57 (j * 4 + 3) = mu b.1 92 (4 * L + 2) (cn nc) 92 (4 * j + 2) ∧ ∃ w, w < 6 ∧ mu a.1 57 (L * 4 + 3) (cn nc) 57 (j * 4 + 0) = cn w ∧ mu b.1 92 (4 * L + 2) (cn nc) 92 (4 * j + 3) = cn (20 + w)
    rw [mu_cell (show (57 : Nat) ≠ 57 ∨ j * 4 + 1 ≠ L * 4 + 3 by omega), mu_cell (show (57 : Nat) ≠ 57 ∨ j * 4 + 2 ≠ L * 4 + 3 by omega), mu_cell (show (57 : Nat) ≠ 57 ∨ j * 4 + 0 ≠ L * 4 + 3 by omega), mu_cell (show (92 : Nat) ≠ 92 ∨ 4 * j ≠ 4 * L + 2 by omega), mu_cell (show (92 : Nat) ≠ 92 ∨ 4 * j + 1 ≠ 4 * L + 2 by omega), mu_cell (show (92 : Nat) ≠ 92 ∨ 4 * j + 3 ≠ 4 * L + 2 by omega)]
    by_cases hjL : j = L
    · subst hjL
      rw [mu_same, mu_same]
      exact ⟨l8, h2w, rfl, w, lw, l6, l7⟩
    · rw [mu_cell (show (57 : Nat) ≠ 57 ∨ j * 4 + 3 ≠ L * 4 + 3 by omega), mu_cell (show (92 : Nat) ≠ 92 ∨ 4 * j + 2 ≠ 4 * L + 2 by omega)]
      exact l5 j (by omega)
theorem LR_same {c d c' d' : Nat → Int32} {j : Nat} (h : LR c d j) (hc : ∀ k, k < 4 → c' (j * 4 + k) = c (j * 4 + k)) (hd : ∀ k, k < 4 → d' (4 * j + k) = d (4 * j + k)) : LR c' d' j := by
  unfold LR
  rw [hc 1 (by omega), hc 2 (by omega), hc 3 (by omega), hc 0 (by omega), hd 1 (by omega), hd 2 (by omega), hd 3 (by omega), show d' (4 * j) = d (4 * j) from hd 0 (by omega)]
  exact h
/-- a line -/
theorem S_line {i nc L : Nat} {a b : mG} (hS : ST T len 0 m B) (h : SX T len 0 m B i nc 0 [] a b) (hL : LL L L a b) : rel (F_X7_readLaw a) (F_X12_aLine b) (LQf T len m B i L) := by
  obtain ⟨h1, h2, h3, h4⟩ := h
  obtain ⟨l0, l1, l2, l3, l4, l5⟩ := hL
  have hK := (PR_facts hS h1 h2).1
  have hF := K_first hK
  unfold F_X7_readLaw F_X12_aLine
  rw [V_within, b1_some, F_isIn, b1_some]
  have no : ∀ w : Int32, rel (b2 (F_X7_refuse w a) fun v s => if v = 0 ∨ v = 1 then some (v, s) else none) (b2 (F_X12_bad w b) fun v s => if v = 0 ∨ v = 1 then some (v, s) else none) (LQf T len m B i L) := fun w => by
    refine rel_b2 (S_fail0 hS h1 h2) (fun v u v2 s q => rel_lp (rel_rp (rel_some ?_)))
    obtain ⟨q1, q2, q3⟩ := q
    have q1 : v = ci 0 := q1
    have q2 : v2 = ci 0 := q2
    subst q1; subst q2
    exact ⟨rfl, pb0, fun _ => q3, fun e => absurd c0e0 e⟩
  by_cases hm : 256 ≤ (a.1 55 14).toInt ∧ (a.1 55 14).toInt ≤ 261
  · have hr := hF.1.mpr hm
    have hd := hF.2 hm
    have hi : i < m := S_lt hS h1 h2 (fun e => by rw [e, t_cm1] at hm; omega)
    rw [wi_in (by rw [show (c16 256).toInt = 256 by decide]; exact hm.1) (by rw [show (c16 261).toInt = 261 by decide]; exact hm.2), wi_in (by rw [show (c8 20).toInt = 20 by decide]; exact hr.1) (by rw [show (c8 25).toInt = 25 by decide]; exact hr.2), if_neg c1n0, if_neg c1n0]
    by_cases hL : L < 16
    · have e16 : ¬ b.1 88 12 = c8 16 := by
        rw [l4]
        intro q
        have q := (cn_inj (a := L) (b := 16) (by omega) (by omega)).mp (q.trans (by decide))
        omega
      rw [if_neg e16, V_add l1 l3 (by decide) hL, b2_some, if_neg (by
        intro q
        have q := r_eq (t_cn (n := L) (by omega)) t_cm1 q
        omega)]
      have w1 : (mu a.1 56 3 (cn (L + 1)), a.2).1 56 1 = cn 4 := (mu_cellQ (by omega)).trans l2
      rw [V_put (r := L) (a2 := ci 0) (c := 0) (n := L + 1) (W := 4) rfl rfl w1 mu_sameQ (by omega) (by omega) (by rw [al_57]; omega) (by omega), b1_some]
      have w2 : (mu (mu a.1 56 3 (cn (L + 1))) 57 (L * 4 + 0) (mu a.1 56 3 (cn (L + 1)) 55 14 - c16 256), a.2).1 56 1 = cn 4 := (congrFun (mu_rowQ (by omega)) 1).trans w1
      have w3 : (mu (mu a.1 56 3 (cn (L + 1))) 57 (L * 4 + 0) (mu a.1 56 3 (cn (L + 1)) 55 14 - c16 256), a.2).1 56 3 = cn (L + 1) := (congrFun (mu_rowQ (by omega)) 3).trans mu_same
      rw [V_put (r := L) (a2 := ci 1) (c := 1) (n := L + 1) (W := 4) rfl rfl w2 w3 (by omega) (by omega) (by rw [al_57]; omega) (by omega), b1_some]
      dsimp only
      -- the class's state
      have x55 : mu a.1 56 3 (cn (L + 1)) 55 14 = a.1 55 14 := congrFun (mu_row (by omega)) 14
      have x58 : mu (mu a.1 56 3 (cn (L + 1))) (56 + 1) (L * 4 + 0) (mu a.1 56 3 (cn (L + 1)) 55 14 - c16 256) 58 3 = cn nc := by
        rw [mu_row (by omega), mu_row (by omega)]; exact h3.2.1
      rw [x58, x55]
      generalize hD : mu (mu (mu a.1 56 3 (cn (L + 1))) (56 + 1) (L * 4 + 0) (a.1 55 14 - c16 256)) (56 + 1) (L * 4 + 1) (cn nc) = D
      have dr : ∀ j, j ≠ 56 → j ≠ 57 → D j = a.1 j := fun j q1 q2 => by rw [← hD, mu_row q2, mu_row q2, mu_row q1]
      have d56 : ∀ c, c ≠ 3 → D 56 c = a.1 56 c := fun c q => by rw [← hD, mu_row (by omega), mu_row (by omega), mu_cell (Or.inr q)]
      have d563 : D 56 3 = cn (L + 1) := by rw [← hD, mu_row (by omega), mu_row (by omega), mu_same]
      have d57 : ∀ k, k ≠ L * 4 + 0 → k ≠ L * 4 + 1 → D 57 k = a.1 57 k := fun k q1 q2 => by rw [← hD, mu_cell (Or.inr q2), mu_cell (Or.inr q1), mu_row (by omega)]
      have d570 : D 57 (L * 4 + 0) = a.1 55 14 - c16 256 := by rw [← hD, mu_cell (by omega), mu_same]
      have d571 : D 57 (L * 4 + 1) = cn nc := by rw [← hD, mu_same]
      clear hD
      -- the reference's
      refine rel_rg ?_
      have e23 : mu b.1 88 23 (ci 0) 88 12 = cn L := (mu_cell (by omega)).trans l4
      have i3 : (ci 4) * (mu b.1 88 23 (ci 0) 88 12) + (ci 3) = cn (4 * L + 3) := by
        rw [e23, show (ci 4) * cn L = cn (4 * L) from cn_mul (a := 4) (by omega) (by omega) (by omega)]
        exact cn_add (b := 3) (by omega)
      rw [i3, cn_nat (by omega), show mu b.1 88 23 (ci 0) 88 17 = b.1 88 17 from mu_cell (by omega)]
      have c1 : CP T len m B i (D, a.2) := CP_rows h1 (dr 55 (by omega) (by omega)) (dr 65 (by omega) (by omega)) (dr 66 (by omega) (by omega))
      have c2 : RP T len 0 m B i (mu (mu b.1 88 23 (ci 0)) 92 (4 * L + 3) (b.1 88 17), b.2) := RP_same h2 ((mu_rowQ (by omega)).trans (mu_row (by omega))) (fun c hc => (congrFun (mu_rowQ (by omega)) c).trans (mu_cell (by omega)))
      have c3 : CodeR nc [] (D, a.2) (mu (mu b.1 88 23 (ci 0)) 92 (4 * L + 3) (b.1 88 17), b.2) := CodeR_rows h3 (dr 58 (by omega) (by omega)) (dr 59 (by omega) (by omega)) ((mu_rowQ (by omega)).trans (mu_row (by omega))) ((congrFun (mu_rowQ (by omega)) 13).trans (mu_cell (by omega)))
      refine rel_b1 (S_step (k' := 0) hS c1 c2 c3 hi (by omega)) (fun u s q => ?_)
      obtain ⟨⟨g1, g2, g3, g4⟩, gc, gn⟩ := q
      -- the sum
      refine rel_rg ?_
      have s12 : s.1 88 12 = cn L := by
        rw [gn.2.2 12 (by omega) (by omega) (by omega) (by omega)]
        exact (congrFun (mu_rowQ (by omega)) 12).trans e23
      have i0 : (ci 4) * (s.1 88 12) = cn (4 * L) := by rw [s12]; exact cn_mul (a := 4) (by omega) (by omega) (by omega)
      rw [i0, cn_nat (by omega), show s.1 88 13 = cn nc from g3.2.2.1]
      have b2' : RP T len 0 m B (i + 1) (mu s.1 92 (4 * L) (cn nc), s.2) := RP_same g2 (mu_rowQ (by omega)) (fun c _ => congrFun (mu_rowQ (by omega)) c)
      have b3' : CodeR nc [] u (mu s.1 92 (4 * L) (cn nc), s.2) := CodeR_rows g3 rfl rfl (mu_rowQ (by omega)) (congrFun (mu_rowQ (by omega)) 13)
      try dsimp only
      refine rel_b2 (S_readSum hS ⟨g1, b2', b3', g4⟩) (fun v u2 v2 s2 q => ?_)
      have ev : v = v2 := q.1
      by_cases hv : v = 0
      · rw [if_pos hv, if_pos (ev ▸ hv)]
        exact rel_some ⟨rfl, pb0, fun _ => q.2.2.2.1 hv, fun e => absurd c0e0 e⟩
      · rw [if_neg hv, if_neg (fun e => hv (ev.trans e))]
        obtain ⟨i', nc', z1, y1, y2, y3, y4⟩ := q.2.2.2.2 hv
        have cg : CG u u2 := q.2.1
        have rg : RG (mu s.1 92 (4 * L) (cn nc), s.2) s2 := q.2.2.1
        have u56 : u2.1 56 = D 56 := (cg.2.1 56 (by omega) (by omega) (by omega)).trans (gc.2.1 56 (by omega))
        have u57 : u2.1 57 = D 57 := (cg.2.1 57 (by omega) (by omega) (by omega)).trans (gc.2.1 57 (by omega))
        have v92 : s2.1 92 = mu s.1 92 (4 * L) (cn nc) 92 := rg.2.1 92 (by omega) (by omega)
        have v92s : s.1 92 = mu (mu b.1 88 23 (ci 0)) 92 (4 * L + 3) (b.1 88 17) 92 := gn.2.1 92 (by omega)
        have v12 : s2.1 88 12 = cn L := by
          rw [rg.2.2 12 (by omega) (by omega) (by omega) (by omega) (by omega) (by omega) (by omega)]
          exact (congrFun (mu_rowQ (by omega)) 12).trans s12
        have v23 : s2.1 88 23 = cn 0 := by
          rw [rg.2.2 23 (by omega) (by omega) (by omega) (by omega) (by omega) (by omega) (by omega)]
          refine (congrFun (mu_rowQ (by omega)) 23).trans ?_
          rw [gn.2.2 23 (by omega) (by omega) (by omega) (by omega)]
          exact (congrFun (mu_rowQ (by omega)) 23).trans mu_same
        have t92 : ∀ k, k ≠ 4 * L → k ≠ 4 * L + 3 → s2.1 92 k = b.1 92 k := fun k q1 q2 => by
          rw [v92, mu_cell (Or.inr q1), v92s, mu_cell (Or.inr q2), mu_row (by omega)]
        have t920 : s2.1 92 (4 * L) = cn nc := by rw [v92, mu_same]
        have t923 : s2.1 92 (4 * L + 3) = b.1 88 17 := by rw [v92, mu_cell (by omega), v92s, mu_same]
        have p1 : u2.1 56 1 = cn 4 := by rw [u56, d56 1 (by omega)]; exact l2
        have p3 : u2.1 56 3 = cn (L + 1) := by rw [u56]; exact d563
        rw [V_put (r := L) (a2 := ci 2) (c := 2) (n := L + 1) (W := 4) rfl rfl p1 p3 (by omega) (by omega) (by rw [al_57]; omega) (by omega), b1_some]
        refine rel_rg ?_
        have i1 : (ci 4) * (s2.1 88 12) + (ci 1) = cn (4 * L + 1) := by
          rw [v12, show (ci 4) * cn L = cn (4 * L) from cn_mul (a := 4) (by omega) (by omega) (by omega)]
          exact cn_add (b := 1) (by omega)
        rw [i1, cn_nat (by omega), y3.2.1, show s2.1 88 13 = cn nc' from y3.2.2.1]
        dsimp only
        have a1 : CP T len m B i' (mu u2.1 (56 + 1) (L * 4 + 2) (cn nc'), u2.2) := CP_rows y1 (mu_rowQ (by omega)) (mu_rowQ (by omega)) (mu_rowQ (by omega))
        have a2 : RP T len 0 m B i' (mu s2.1 92 (4 * L + 1) (cn nc'), s2.2) := RP_same y2 (mu_rowQ (by omega)) (fun c _ => congrFun (mu_rowQ (by omega)) c)
        have a3 : CodeR nc' [] (mu u2.1 (56 + 1) (L * 4 + 2) (cn nc'), u2.2) (mu s2.1 92 (4 * L + 1) (cn nc'), s2.2) := CodeR_rows y3 (mu_rowQ (by omega)) (mu_rowQ (by omega)) (mu_rowQ (by omega)) (congrFun (mu_rowQ (by omega)) 13)
        -- half read
        have half : ∀ (x y : mG), x.1 56 = u2.1 56 → x.1 57 = mu u2.1 57 (L * 4 + 2) (cn nc') 57 → y.1 92 = mu s2.1 92 (4 * L + 1) (cn nc') 92 → y.1 88 12 = cn L → LHf L x y ∧ x.1 57 (L * 4 + 2) = y.1 92 (4 * L + 1) := by
          intro x y x56 x57 y92 y12
          refine ⟨⟨hL, ?_, ?_, ?_, y12, fun j hj => ?_, ⟨((a.1 55 14).toInt - 256).toNat, by omega, ?_, ?_⟩, ?_⟩, ?_⟩
          · rw [x56, u56, d56 0 (by omega)]; exact l1
          · rw [x56]; exact p1
          · rw [x56]; exact p3
          · rw [x57, y92]
            refine LR_same (l5 j hj) (fun k hk => ?_) (fun k hk => ?_)
            · rw [mu_cell (by omega), u57, d57 _ (by omega) (by omega)]
            · rw [mu_cell (by omega), t92 _ (by omega) (by omega)]
          · rw [x57, mu_cell (by omega), u57, d570]
            refine Int32.toInt_inj.mp ?_
            rw [r_sub rfl (by decide : (c16 256).toInt = 256) (by omega) (by omega), t_cn (by omega)]
            omega
          · rw [y92, mu_cell (by omega), t923]
            refine Int32.toInt_inj.mp ?_
            rw [t_cn (by omega)]
            omega
          · rw [x57, y92, mu_cell (by omega), mu_cell (by omega), u57, d571, t920]
          · rw [x57, y92, mu_same, mu_same]
        have hKw := (PR_facts hS a1 a2).1
        refine rel_ifs (K_when hKw).symm (fun e => ?_) (fun e => ?_)
        · have hi' := S_lt hS a1 a2 (fun z => absurd (e.symm.trans z) (by decide))
          refine rel_b1 (S_step (k' := 0) hS a1 a2 a3 hi' (by omega)) (fun u3 s3 q => ?_)
          obtain ⟨f1, f2, f3⟩ := q
          have x23 : s3.1 88 23 = cn 0 := by
            rw [f3.2.2 23 (by omega) (by omega) (by omega) (by omega)]
            exact (congrFun (mu_rowQ (by omega)) 23).trans v23
          have hc := S_cond hS (by omega) f1 x23
          intro τ hτ υ hυ
          obtain ⟨v33, s32, e33, hτ⟩ := m_b2 hτ
          obtain ⟨v31, s30, e31, hυ⟩ := m_b2 hυ
          obtain ⟨o1, o2, o3, o4⟩ := hc (v33, s32) e33 (v31, s30) e31
          have hw := W_X7_readCondition (M := 148474672515150512128) (z := u3) sub_rfl KB_rfl (v33, s32) e33
          have hw : KB 148474672515150512128 u3 s32 := hw
          have o1 : v33 = v31 := o1
          by_cases hv3 : v33 = 0
          · rw [if_pos hv3] at hτ
            rw [if_pos (o1 ▸ hv3)] at hυ
            cases hτ; cases hυ
            exact ⟨rfl, pb0, fun _ => o3 hv3, fun e => absurd c0e0 e⟩
          · rw [if_neg hv3] at hτ
            rw [if_neg (fun e => hv3 (o1.trans e))] at hυ
            obtain ⟨i3, nc3, t1, t2⟩ := o4 hv3
            have hh := half s32 s30 ((hw 56 (by decide +kernel)).trans ((f2.2.1 56 (by omega)).trans (mu_rowQ (by omega)))) ((hw 57 (by decide +kernel)).trans (f2.2.1 57 (by omega))) ((o2.2.1 92 (by omega) (by omega)).trans (f3.2.1 92 (by omega))) (by
              rw [o2.2.2 12 (by omega) (by omega) (by omega) (by omega) (by omega) (by omega) (by omega) (by omega), f3.2.2 12 (by omega) (by omega) (by omega) (by omega)]
              exact (congrFun (mu_rowQ (by omega)) 12).trans v12)
            exact S_lineEnd (i0 := i) hS (by omega) t2 hh.1 hh.2 τ hτ υ hυ
        · have hh := half (mu u2.1 (56 + 1) (L * 4 + 2) (cn nc'), u2.2) (mu s2.1 92 (4 * L + 1) (cn nc'), s2.2) (mu_rowQ (by omega)) rfl rfl ((congrFun (mu_rowQ (by omega)) 12).trans v12)
          exact S_lineEnd (i0 := i) hS (by omega) ⟨a1, a2, a3, by omega⟩ hh.1 hh.2
    · have e16 : b.1 88 12 = c8 16 := by rw [l4, show L = 16 by omega]; decide
      rw [if_pos e16, V_add1 l1 l3 (by omega) (by decide) hL, b2_some, if_pos rfl]
      exact no (ci 3)
  · rw [wi_out (by rw [show (c16 256).toInt = 256 by decide, show (c16 261).toInt = 261 by decide]; exact hm), wi_out (by rw [show (c8 20).toInt = 20 by decide, show (c8 25).toInt = 25 by decide]; exact fun q => hm (hF.1.mp q)), if_pos c0e0, if_pos c0e0]
    exact no (ci 1)
end LINES
end
