noncomputable section
/-! A GUEST COMES, WHAT WAS DONE GOES BACK, on both sides -/
theorem HSr_othN {h : Nat} {D D' : Nat → Nat → Int32} {w w' : Nat → Int32} (H : HSr h D w) (hG : TWr (h + 1) 11 12 112 ixG D' w') (hD : ∀ j, h + 3 ≤ j → j ≤ h + 16 → D' j = D j) (hc : ∀ c, 8 ≤ c → c ≤ 11 → D' h c = D h c) (hw : ∀ k, NG k → k ≠ 112 → w' k = w k) : HSr h D' w' := by
  obtain ⟨_, t2, t3, t4, t5, t6, t7, t8, c1, c2, c3, c4⟩ := H
  refine ⟨hG, TWr_same t2 (hD _ (by omega) (by omega)) (hD _ (by omega) (by omega)) (hw _ (by unfold NG; omega) (by omega)) (fun r c hr hcc => hw _ (by unfold NG ixB; omega) (by unfold ixB; omega)), LWr_same t3 (hD _ (by omega) (by omega)) (hD _ (by omega) (by omega)) (fun k hk => hw k (by unfold NG; omega) (by omega)), CWr_same t4 (hD _ (by omega) (by omega)) (hD _ (by omega) (by omega)) (fun k h1 h2 => hw k (by unfold NG; omega) (by omega)), TWr_same t5 (hD _ (by omega) (by omega)) (hD _ (by omega) (by omega)) (hw _ (by unfold NG; omega) (by omega)) (fun r c hr hcc => hw _ (by unfold NG ixS; omega) (by unfold ixS; omega)), TWr_same t6 (hD _ (by omega) (by omega)) (hD _ (by omega) (by omega)) (hw _ (by unfold NG; omega) (by omega)) (fun r c hr hcc => hw _ (by unfold NG ixH; omega) (by unfold ixH; omega)), TWr_same t7 (hD _ (by omega) (by omega)) (hD _ (by omega) (by omega)) (hw _ (by unfold NG; omega) (by omega)) (fun r c hr hcc => hw _ (by unfold NG ixR; omega) (by unfold ixR; omega)), TWr_same t8 (hD _ (by omega) (by omega)) (hD _ (by omega) (by omega)) (hw _ (by unfold NG; omega) (by omega)) (fun r c hr hcc => hw _ (by unfold NG ixC; omega) (by unfold ixC; omega)), ?_, ?_, ?_, ?_⟩
  · rw [hc 8 (by decide) (by decide), hw 113 (by unfold NG; omega) (by omega)]; exact c1
  · rw [hc 9 (by decide) (by decide), hw 114 (by unfold NG; omega) (by omega)]; exact c2
  · rw [hc 10 (by decide) (by decide), hw 0 (by unfold NG; omega) (by omega)]; exact c3
  · rw [hc 11 (by decide) (by decide), hw 1 (by unfold NG; omega) (by omega)]; exact c4
theorem V_fsoE {s : mG} {n g : Nat} (h1 : s.1 2 1 = cn 11) (h3 : s.1 2 3 = cn n) (hn : n ≤ 12) (hg : g < n) : pk (F_X2_forgetSeenOf 1 (cn g) s) (fun u => (∀ j, j ≠ 3 → u.1 j = s.1 j) ∧ (∀ k, (k < g * 11 + 5 ∨ g * 11 + 11 ≤ k) → u.1 3 k = s.1 3 k) ∧ ∀ c, 5 ≤ c → c < 11 → u.1 3 (g * 11 + c) = ci (-1)) := by
  unfold F_X2_forgetSeenOf F_X2_forgetSeenOf_L2
  refine pk_whl (fun v => v.1 = cn g ∧ ∃ i, i ≤ 6 ∧ v.2.1 = cn i ∧ (∀ j, j ≠ 3 → v.2.2.1 j = s.1 j) ∧ (∀ k, (k < g * 11 + 5 ∨ g * 11 + 11 ≤ k) → v.2.2.1 3 k = s.1 3 k) ∧ ∀ c, 5 ≤ c → c < 5 + i → v.2.2.1 3 (g * 11 + c) = ci (-1)) ⟨rfl, 0, by omega, rfl, fun _ _ => rfl, fun _ _ => rfl, fun c h1 h2 => absurd h2 (by omega)⟩ (fun v hv => ?_)
  obtain ⟨x1, x2, u⟩ := v
  obtain ⟨e1, i, hi, e2, r, k0, k1⟩ := hv
  have e1 : x1 = cn g := e1
  have e2 : x2 = cn i := e2
  have r : ∀ j, j ≠ 3 → u.1 j = s.1 j := r
  have k0 : ∀ k, (k < g * 11 + 5 ∨ g * 11 + 11 ≤ k) → u.1 3 k = s.1 3 k := k0
  have k1 : ∀ c, 5 ≤ c → c < 5 + i → u.1 3 (g * 11 + c) = ci (-1) := k1
  subst e1; subst e2
  unfold F_X2_forgetSeenOf_B2
  dsimp only
  rw [show c8 6 = cn 6 by decide]
  by_cases h6 : 6 ≤ i
  · rw [if_pos ((cn_le (a := 6) (by decide) (by omega)).mpr h6)]
    exact pk_some ⟨r, k0, fun c h1 h2 => k1 c h1 (by omega)⟩
  · rw [if_neg (fun q => h6 ((cn_le (a := 6) (by decide) (by omega)).mp q)), show (1 + 1 : Nat) = 2 from rfl, show ci 5 + cn i = cn (5 + i) from cn_add (a := 5) (by omega), V_putG (c := 5 + i) (by rw [r 2 (by decide)]; exact h1) (by rw [r 2 (by decide)]; exact h3) hn hg (by omega) rfl, b1_some]
    have mc : ∀ k, k ≠ g * 11 + (5 + i) → mu u.1 3 (g * 11 + (5 + i)) (ci (-1)) 3 k = u.1 3 k := fun k hk => mu_cell (Or.inr hk)
    refine pk_some (show _ ∧ _ from ⟨rfl, i + 1, by omega, cnu (by omega), fun j hj => (mu_rowQ hj).trans (r j hj), fun k hk => (mc k (by omega)).trans (k0 k hk), fun c h1 h2 => ?_⟩)
    by_cases e : c = 5 + i
    · subst e; exact mu_sameQ
    · exact (mc (g * 11 + c) (by omega)).trans (k1 c h1 (by omega))
/-- the cells of a new guest -/
def gvN (x y : Int32) (c : Nat) : Int32 := if c = 0 then x else if c = 1 then y else if c = 2 then ci 0 else if c = 3 then ci (-1) else if c = 4 then ci 0 else ci (-1)
theorem lt11 {c : Nat} (h : c < 11) : c = 0 ∨ c = 1 ∨ c = 2 ∨ c = 3 ∨ c = 4 ∨ (5 ≤ c ∧ c < 11) := by omega
theorem gvN_5 {x y : Int32} {c : Nat} (h : 5 ≤ c) : gvN x y c = ci (-1) := by
  unfold gvN
  rw [if_neg (by omega), if_neg (by omega), if_neg (by omega), if_neg (by omega), if_neg (by omega)]
theorem V_guestE {a : mG} {x y : Int32} {n : Nat} (h0 : a.1 2 0 = cn 12) (h1 : a.1 2 1 = cn 11) (h3 : a.1 2 3 = cn n) (hn : n < 12) : pk (F_X2_addGuest 1 x y a) (fun τ => τ.1 = cn n ∧ (∀ j, j ≠ 2 → j ≠ 3 → τ.2.1 j = a.1 j) ∧ (∀ c, c ≠ 3 → τ.2.1 2 c = a.1 2 c) ∧ τ.2.1 2 3 = cn (n + 1) ∧ (∀ k, k < n * 11 → τ.2.1 3 k = a.1 3 k) ∧ ∀ c, c < 11 → τ.2.1 3 (n * 11 + c) = gvN x y c) := by
  unfold F_X2_addGuest
  rw [show (1 + 1 : Nat) = 2 from rfl, V_add h0 h3 (by decide) hn, b2_some]
  have PUT : ∀ (D : Nat → Nat → Int32) (c : Nat) (cc v : Int32), cc = cn c → D 2 = mu a.1 2 3 (cn (n + 1)) 2 → c < 11 → F_X10_put 2 (cn n) cc v (D, a.2) = some (mu D 3 (n * 11 + c) v, a.2) := fun D c cc v e d hc =>
    V_put (t := 2) (s := (D, a.2)) (r := n) (c := c) (n := n + 1) (W := 11) rfl e (by show D 2 1 = _; rw [d, mu_cell (by decide)]; exact h1) (by show D 2 3 = _; rw [d, mu_same]) (by omega) hc (by rw [al_G]; omega) (by omega)
  rw [PUT _ 0 (ci 0) x rfl rfl (by decide), b1_some, PUT _ 1 (ci 1) y rfl (mu_row (by decide)) (by decide), b1_some, PUT _ 2 (ci 2) (ci 0) rfl ((mu_row (by decide)).trans (mu_row (by decide))) (by decide), b1_some, PUT _ 3 (ci 3) (ci (-1)) rfl ((mu_row (by decide)).trans ((mu_row (by decide)).trans (mu_row (by decide)))) (by decide), b1_some, PUT _ 4 (ci 4) (ci 0) rfl ((mu_row (by decide)).trans ((mu_row (by decide)).trans ((mu_row (by decide)).trans (mu_row (by decide))))) (by decide), b1_some]
  have eD : mu (mu (mu (mu (mu (mu a.1 2 3 (cn (n + 1))) 3 (n * 11 + 0) x) 3 (n * 11 + 1) y) 3 (n * 11 + 2) (ci 0)) 3 (n * 11 + 3) (ci (-1))) 3 (n * 11 + 4) (ci 0) = BL (mu a.1 2 3 (cn (n + 1))) 3 (n * 11) [x, y, ci 0, ci (-1), ci 0] := rfl
  rw [eD]
  have r2 : BL (mu a.1 2 3 (cn (n + 1))) 3 (n * 11) [x, y, ci 0, ci (-1), ci 0] 2 = mu a.1 2 3 (cn (n + 1)) 2 := BL_row (by decide) _ _ _
  refine pk_b1 (V_fsoE (n := n + 1) (g := n) (by show BL _ 3 _ _ 2 1 = _; rw [r2, mu_cell (by decide)]; exact h1) (by show BL _ 3 _ _ 2 3 = _; rw [r2, mu_same]) (by omega) (by omega)) (fun u q => ?_)
  obtain ⟨q1, q2, q3⟩ := q
  have q1 : ∀ j, j ≠ 3 → u.1 j = BL (mu a.1 2 3 (cn (n + 1))) 3 (n * 11) [x, y, ci 0, ci (-1), ci 0] j := q1
  have q2 : ∀ k, (k < n * 11 + 5 ∨ n * 11 + 11 ≤ k) → u.1 3 k = BL (mu a.1 2 3 (cn (n + 1))) 3 (n * 11) [x, y, ci 0, ci (-1), ci 0] 3 k := q2
  refine pk_some ⟨rfl, fun j h1 h2 => ?_, fun c hc => ?_, ?_, fun k hk => ?_, fun c hc => ?_⟩
  · show u.1 j = _
    rw [q1 j h2, BL_row h2, mu_row h1]
  · show u.1 2 c = _
    rw [q1 2 (by decide), r2, mu_cell (Or.inr hc)]
  · show u.1 2 3 = _
    rw [q1 2 (by decide), r2, mu_same]
  · show u.1 3 k = _
    rw [q2 k (by omega), BL_out _ _ _ (Or.inl hk)]
    exact congrFun (mu_row (by decide)) k
  · show u.1 3 (n * 11 + c) = _
    rcases lt11 hc with e | e | e | e | e | e
    · subst e; rw [q2 _ (by omega), BL_in _ _ _ (show 0 < 5 by decide)]; rfl
    · subst e; rw [q2 _ (by omega), BL_in _ _ _ (show 1 < 5 by decide)]; rfl
    · subst e; rw [q2 _ (by omega), BL_in _ _ _ (show 2 < 5 by decide)]; rfl
    · subst e; rw [q2 _ (by omega), BL_in _ _ _ (show 3 < 5 by decide)]; rfl
    · subst e; rw [q2 _ (by omega), BL_in _ _ _ (show 4 < 5 by decide)]; rfl
    · rw [q3 c e.1 e.2, gvN_5 e.1]
theorem V_guestRE {b : mG} {n : Nat} (h : b.1 89 112 = cn n) (hn : n < 12) : pk (F_X12_guest_L94 (cn n) (ci 0) b) (fun τ => τ.1 = cn n ∧ (∀ j, j ≠ 88 → j ≠ 89 → τ.2.1 j = b.1 j) ∧ (∀ c, c ≠ 3 → τ.2.1 88 c = b.1 88 c) ∧ τ.2.1 88 3 = ci 0 ∧ τ.2.1 89 = fun k => if k = 112 then cn (n + 1) else ovr (39 + 6 * n) 6 (fun _ => ci (-1)) (b.1 89) k) := by
  unfold F_X12_guest_L94
  refine pk_whl (fun v => v.1 = cn n ∧ ∃ i, i ≤ 6 ∧ v.2.1 = cn i ∧ (∀ j, j ≠ 89 → v.2.2.1 j = b.1 j) ∧ v.2.2.1 89 = ovr (39 + 6 * n) i (fun _ => ci (-1)) (b.1 89)) ⟨rfl, 0, by omega, rfl, fun _ _ => rfl, ovr_0.symm⟩ (fun v hv => ?_)
  obtain ⟨x3, x4, u⟩ := v
  obtain ⟨e1, i, hi, e2, r, e89⟩ := hv
  have e1 : x3 = cn n := e1
  have e2 : x4 = cn i := e2
  have r : ∀ j, j ≠ 89 → u.1 j = b.1 j := r
  have e89 : u.1 89 = ovr (39 + 6 * n) i (fun _ => ci (-1)) (b.1 89) := e89
  subst e1; subst e2
  unfold F_X12_guest_B94 F_X12_forgets
  dsimp only
  by_cases h6 : 6 ≤ i
  · have ei : i = 6 := by omega
    subst ei
    have u112 : u.1 89 112 = cn n := by
      rw [e89]
      unfold ovr
      rw [if_neg (by omega)]; exact h
    rw [if_pos (show c8 6 ≤ cn 6 by decide), u112, cnu (by omega), b1_some]
    refine pk_some (show _ ∧ _ from ⟨rfl, fun j h1 h2 => ?_, fun c hc => ?_, (show mu (mu u.1 89 112 (cn (n + 1))) 88 3 (ci 0) 88 3 = ci 0 from mu_same), ?_⟩)
    · dsimp only
      rw [mu_row h1, mu_row h2]; exact r j h2
    · dsimp only
      rw [mu_cell (Or.inr hc), mu_row (by decide), r 88 (by decide)]
    · dsimp only
      rw [mu_row (by decide)]
      funext k
      rw [mu_ap, e89]
      by_cases e : k = 112
      · rw [if_pos ⟨rfl, e⟩, if_pos e]
      · rw [if_neg (fun q => e q.2), if_neg e]
  · rw [if_neg (show ¬ c8 6 ≤ cn i from fun q => h6 ((cn_le (a := 6) (by decide) (by omega)).mp q)), show (c8 6) * cn n = cn (6 * n) from cn_mul (a := 6) (by omega) (by omega) (by omega), show c8 39 + cn (6 * n) = cn (39 + 6 * n) from cn_add (a := 39) (by omega), cn_add (by omega), cn_nat (n := 39 + 6 * n + i) (by omega), cnu (by omega)]
    refine pk_nn (pk_some (show _ ∧ _ from ⟨rfl, i + 1, by omega, rfl, fun j hj => (mu_row hj).trans (r j hj), ovr_up e89 rfl⟩))
theorem R_guest {a b : mG} {x y : Int32} (h : SIM a b) : rel (F_X11_guest x y a) (F_X12_guest x y b) (fun τ υ => τ.1 = υ.1 ∧ SIM τ.2 υ.2) := by
  obtain ⟨⟨n, nb, nc, hn, hnb, e2, e4, e8, H, L, V⟩, _⟩ := id h
  have h112 := SIM_n H e2
  unfold F_X11_guest F_X12_guest F_X11_guest_32 F_X12_guest_31
  rw [V_within, F_isIn, b1_some, b1_some]
  by_cases h1 : wi x (ci 0) (ci 3) = 0
  · rw [if_pos h1, if_pos h1]; exact rel_some ⟨rfl, h⟩
  rw [if_neg h1, if_neg h1, V_within, F_isIn, b1_some, b1_some]
  by_cases h2 : wi y (ci 0) (c8 99) = 0
  · rw [if_pos h2, if_pos h2]; exact rel_some ⟨rfl, h⟩
  rw [if_neg h2, if_neg h2, V_full H.1.1 e2 (by omega) (by decide), b1_some, h112]
  by_cases kf : n < 12
  · rw [if_pos kf, if_pos c0e0, if_neg (fun q => absurd ((cn_inj (b := 12) (by omega) (by decide)).mp (q.trans (by decide))) (by omega)), show c8 119 + cn n = cn (119 + n) from cn_add (a := 119) (by omega), show c16 131 + cn n = cn (131 + n) from cn_add (a := 131) (by omega), show ci 3 + cn n = cn (3 + n) from cn_add (a := 3) (by omega), show c8 15 + cn n = cn (15 + n) from cn_add (a := 15) (by omega), show c8 27 + cn n = cn (27 + n) from cn_add (a := 27) (by omega), cn_nat (n := 119 + n) (by omega), cn_nat (n := 131 + n) (by omega), cn_nat (n := 3 + n) (by omega), cn_nat (n := 15 + n) (by omega), cn_nat (n := 27 + n) (by omega)]
    unfold F_X5_forget
    dsimp only
    rw [b1_some]
    refine rel_rg (rel_rg (rel_rg (rel_rg (rel_rg ?_))))
    have f2 : ((mu a.1 35 1 (ci 0), a.2) : mG).1 2 = a.1 2 := mu_rowQ (by decide)
    intro τ hτ υ hυ
    obtain ⟨v, u, hu, hτ⟩ := m_b2 hτ
    have hτ := Option.some.inj hτ
    subst hτ
    obtain ⟨q1, q2, q3, q4, q5, q6⟩ := V_guestE (n := n) (by rw [f2]; exact H.1.1) (by rw [f2]; exact H.1.2.1) (by rw [f2]; exact e2) kf (v, u) hu
    have q1 : v = cn n := q1
    have q2 : ∀ j, j ≠ 2 → j ≠ 3 → u.1 j = mu a.1 35 1 (ci 0) j := q2
    have q3 : ∀ c, c ≠ 3 → u.1 2 c = mu a.1 35 1 (ci 0) 2 c := q3
    have q4 : u.1 2 3 = cn (n + 1) := q4
    have q5 : ∀ k, k < n * 11 → u.1 3 k = mu a.1 35 1 (ci 0) 3 k := q5
    have q6 : ∀ c, c < 11 → u.1 3 (n * 11 + c) = gvN x y c := q6
    obtain ⟨E, hE⟩ : ∃ E, E = mu (mu (mu (mu (mu b.1 89 (119 + n) x) 89 (131 + n) y) 89 (3 + n) (ci 0)) 89 (15 + n) (ci (-1))) 89 (27 + n) (ci 0) := ⟨_, rfl⟩
    rw [← hE] at hυ
    have e112 : ((E, b.2) : mG).1 89 112 = cn n := by
      show E 89 112 = _
      rw [hE, mu_cell (Or.inr (by omega)), mu_cell (Or.inr (by omega)), mu_cell (Or.inr (by omega)), mu_cell (Or.inr (by omega)), mu_cell (Or.inr (by omega))]
      exact h112
    obtain ⟨p1, p2, p3, p4, p5⟩ := V_guestRE e112 kf υ hυ
    have p5 : υ.2.1 89 = fun k => if k = 112 then cn (n + 1) else ovr (39 + 6 * n) 6 (fun _ => ci (-1)) (E 89) k := p5
    have rE : ∀ j, j ≠ 89 → E j = b.1 j := fun j hj => by rw [hE, mu_row hj, mu_row hj, mu_row hj, mu_row hj, mu_row hj]
    -- a cell that is no new one
    have old : ∀ k, k ≠ 112 → k ≠ 119 + n → k ≠ 131 + n → k ≠ 3 + n → k ≠ 15 + n → k ≠ 27 + n → (k < 39 + 6 * n ∨ 39 + 6 * n + 6 ≤ k) → υ.2.1 89 k = b.1 89 k := fun k a1 a2 a3 a4 a5 a6 a7 => by
      rw [p5]
      dsimp only
      rw [if_neg a1]
      unfold ovr
      rw [if_neg (by omega), hE, mu_cell (Or.inr a6), mu_cell (Or.inr a5), mu_cell (Or.inr a4), mu_cell (Or.inr a3), mu_cell (Or.inr a2)]
    have ev : ∀ k, k ≠ 112 → (k < 39 + 6 * n ∨ 39 + 6 * n + 6 ≤ k) → υ.2.1 89 k = E 89 k := fun k a1 a2 => by
      rw [p5]
      dsimp only
      rw [if_neg a1]
      unfold ovr
      rw [if_neg (by omega)]
    have new : ∀ c, c < 11 → υ.2.1 89 (ixG n c) = gvN x y c := fun c hc => by
      rcases lt11 hc with e | e | e | e | e | e
      · subst e
        rw [show ixG n 0 = 119 + n from rfl, ev _ (by omega) (by omega), hE, mu_cell (Or.inr (by omega)), mu_cell (Or.inr (by omega)), mu_cell (Or.inr (by omega)), mu_cell (Or.inr (by omega)), mu_same]; rfl
      · subst e
        rw [show ixG n 1 = 131 + n from rfl, ev _ (by omega) (by omega), hE, mu_cell (Or.inr (by omega)), mu_cell (Or.inr (by omega)), mu_cell (Or.inr (by omega)), mu_same]; rfl
      · subst e
        rw [show ixG n 2 = 3 + n from rfl, ev _ (by omega) (by omega), hE, mu_cell (Or.inr (by omega)), mu_cell (Or.inr (by omega)), mu_same]; rfl
      · subst e
        rw [show ixG n 3 = 15 + n from rfl, ev _ (by omega) (by omega), hE, mu_cell (Or.inr (by omega)), mu_same]; rfl
      · subst e
        rw [show ixG n 4 = 27 + n from rfl, ev _ (by omega) (by omega), hE, mu_same]; rfl
      · have ei : ixG n c = 39 + 6 * n + (c - 5) := by
          rcases ixG_cases (r := n) hc with q | q | q | q | q | q <;> omega
        rw [ei, gvN_5 e.1, p5]
        dsimp only
        rw [if_neg (by omega)]
        unfold ovr
        rw [if_pos (by omega)]
    have Hn : HSr 1 u.1 (υ.2.1 89) := by
      refine HSr_othN (D := a.1) (w := b.1 89) H ?_ (fun j h1 h2 => (q2 j (by omega) (by omega)).trans (mu_row (by omega))) (fun c _ _ => congrFun ((q2 1 (by decide) (by decide)).trans (mu_row (by decide))) c) (fun k hk e => ?_)
      · refine TWr_add (n := n) H.1 e2 kf (by decide) (fun c hc => (q3 c hc).trans (congrFun (mu_row (by decide)) c)) q4 (fun k hk => (q5 k hk).trans (congrFun (mu_row (by decide)) k)) ?_ (fun r c hr hc => ?_) (fun c hc => (q6 c hc).trans (new c hc).symm)
        · rw [p5]
          exact if_pos rfl
        · have i1 : ixG r c ≠ 112 := by have := ixG_rng (r := r) (by omega) hc; omega
          rcases ixG_cases (r := r) hc with q | q | q | q | q | q <;> exact old _ i1 (by omega) (by omega) (by omega) (by omega) (by omega) (by omega)
      · unfold NG at hk
        exact old k e (by omega) (by omega) (by omega) (by omega) (by omega) (by omega)
    have u4 : u.1 4 = a.1 4 := (q2 4 (by decide) (by decide)).trans (mu_row (by decide))
    have u8 : u.1 8 = a.1 8 := (q2 8 (by decide) (by decide)).trans (mu_row (by decide))
    refine ⟨q1.trans p1.symm, SIM_forget h (u := u) (t := υ.2) (n := n + 1) (by omega) hnb q4 (by rw [u4]; exact e4) (by rw [u8]; exact e8) Hn (LTy_same L (fun k hk => old k (by omega) (by omega) (by omega) (by omega) (by omega) (by omega) (by omega))) ⟨?_, ?_, fun i hi => ?_⟩ ((congrFun (q2 35 (by decide) (by decide)) 1).trans mu_same) ((congrFun (q2 35 (by decide) (by decide)) 2).trans (mu_cell (by decide))) (fun j h1 h2 => (q2 j (by omega) (by omega)).trans (mu_row (by omega))) p4 ((congrFun (q2 0 (by decide) (by decide)) 2).trans (congrFun (mu_row (by decide)) 2)) (fun j h1 h2 => (q2 j (by omega) (by omega)).trans (mu_row (by omega))) ((p3 4 (by decide)).trans (congrFun (rE 88 (by decide)) 4)) ((p2 90 (by decide) (by decide)).trans (rE 90 (by decide)))⟩
    · rw [old 0 (by omega) (by omega) (by omega) (by omega) (by omega) (by omega) (by omega)]; exact V.1
    · rw [old 0 (by omega) (by omega) (by omega) (by omega) (by omega) (by omega) (by omega)]; exact V.2.1
    · by_cases e : i = n
      · subst e
        have n2 := new 2 (by decide)
        have n3 := new 3 (by decide)
        have n4 := new 4 (by decide)
        unfold VIg
        rw [show υ.2.1 89 (3 + i) = ci 0 from n2, show υ.2.1 89 (15 + i) = ci (-1) from n3, show υ.2.1 89 (27 + i) = ci 0 from n4]
        exact ⟨Or.inl rfl, fun _ => rfl, by decide, by decide⟩
      · have Vi := V.2.2 i (by omega)
        unfold VIg at Vi ⊢
        rw [old (3 + i) (by omega) (by omega) (by omega) (by omega) (by omega) (by omega) (by omega), old (15 + i) (by omega) (by omega) (by omega) (by omega) (by omega) (by omega) (by omega), old (27 + i) (by omega) (by omega) (by omega) (by omega) (by omega) (by omega) (by omega)]
        exact Vi
  · rw [if_neg kf, if_neg c1n0, if_pos (show cn n = c8 12 by rw [show n = 12 by omega]; decide)]
    exact rel_some ⟨rfl, h⟩
theorem R_undo {a b : mG} (h : SIM a b) : rel (F_X11_undo a) (F_X12_undo b) (fun τ υ => τ.1 = υ.1 ∧ SIM τ.2 υ.2) := by
  obtain ⟨⟨n, nb, nc, hn, hnb, e2, e4, e8, H, L, V⟩, P, I⟩ := id h
  obtain ⟨c, t, n1, nb1, bk, hc, ht, hn1, hnb1, p1, p2, p3, p4, p5, hbk, hbk2, hm, hP⟩ := P
  have en : n1 = n := (cn_inj (by omega) (by omega)).mp (p4.symm.trans e2)
  subst en
  have enb : nb1 = nb := (cn_inj (by omega) (by omega)).mp (p5.symm.trans e4)
  subst enb
  unfold F_X11_undo
  by_cases h0 : c = 0
  · subst h0
    have e : F_X5_giveBack 1 a = some (ci 0, a) := by
      unfold F_X5_giveBack F_X5_giveBack_30
      dsimp only
      rw [p2, rm_dn t ht, V_moment rfl (Nat.mod_lt _ (by decide)), bo_some, if_pos (p1.trans (by decide))]
    rw [e, b2_some, if_pos (Or.inl c0e0)]
    intro τ hτ υ hυ
    have hτ := Option.some.inj hτ
    subst hτ
    rcases E_undo hc p3 υ hυ with ⟨_, q⟩ | ⟨q, _⟩
    · subst q; exact ⟨rfl, h⟩
    · exact absurd q (by omega)
  · intro τ hτ υ hυ
    obtain ⟨v, u, hu, hτ⟩ := m_b2 hτ
    have hτ := (m_gp hτ).2
    have hτ := Option.some.inj hτ
    subst hτ
    have q0 := (hP (c - 1) (by omega)).1
    rw [show (t + 6 - c + (c - 1)) % 6 = (t + 5) % 6 by omega] at q0
    have m1 : a.1 (37 + 3 * ((t + 5) % 6)) 1 = cn (bk (c - 1)) := q0.1.trans (hbk (c - 1) (by omega)).2
    obtain ⟨g1, g2⟩ := V_giveBackE hc (by omega) ht hn hnb (hbk (c - 1) (by omega)).1 p1 p2 H.1.1 H.1.2.1 e2 e4 m1 q0.2.2.2.1 (v, u) hu
    have g1 : v = ci 1 := g1
    have g2 : GBo ((t + 5) % 6) c n1 (bk (c - 1)) a u := g2
    rcases E_undo hc p3 υ hυ with ⟨q, _⟩ | ⟨_, r1, r2, r3, r4, r5⟩
    · exact absurd q h0
    · obtain ⟨w1, w2, w3⟩ := PSr_undo (w88' := υ.2.1 88) H hc (by omega) ht hn hnb e2 e4 hbk hbk2 hm hP g2 r4
      rw [← r5] at w1 w3
      have lo : ∀ j, 5 ≤ j → j ≠ 35 → u.1 j = a.1 j := fun j h1 h2 => g2.1 j (by omega) (by omega) (by omega) (by omega) h2
      have hb1 := (hbk (c - 1) (by omega)).1
      refine ⟨g1.trans r1.symm, ⟨⟨n1, bk (c - 1), nc, hn, by omega, (g2.2.1 3).trans e2, g2.2.2.2.2.1, by rw [show ((v, u) : Int32 × mG).2.1 8 = a.1 8 from lo 8 (by decide) (by decide)]; exact e8, w1, ?_, w3⟩, ?_, ?_⟩⟩
      · refine LTy_same L (fun k hk => ?_)
        rw [r5]
        unfold ovr
        rw [if_neg (by omega)]
      · rw [r2 91 (by decide) (by decide)]; exact w2
      · exact IMG_same I (congrFun (g2.1 0 (by decide) (by decide) (by decide) (by decide) (by decide)) 2) (fun j h1 h2 => lo j (by omega) (by omega)) (r3 4 (by decide)) (r2 90 (by decide) (by decide))
end
