noncomputable section
/-! ONE CELL CHANGES on both sides -/
theorem ixG_cases {r c : Nat} (hc : c < 11) : (c = 0 ∧ ixG r c = 119 + r) ∨ (c = 1 ∧ ixG r c = 131 + r) ∨ (c = 2 ∧ ixG r c = 3 + r) ∨ (c = 3 ∧ ixG r c = 15 + r) ∨ (c = 4 ∧ ixG r c = 27 + r) ∨ (5 ≤ c ∧ ixG r c = 39 + 6 * r + (c - 5)) := by
  unfold ixG
  by_cases h0 : c = 0
  · exact Or.inl ⟨h0, if_pos h0⟩
  by_cases h1 : c = 1
  · exact Or.inr (Or.inl ⟨h1, by rw [if_neg h0, if_pos h1]⟩)
  by_cases h2 : c = 2
  · exact Or.inr (Or.inr (Or.inl ⟨h2, by rw [if_neg h0, if_neg h1, if_pos h2]⟩))
  by_cases h3 : c = 3
  · exact Or.inr (Or.inr (Or.inr (Or.inl ⟨h3, by rw [if_neg h0, if_neg h1, if_neg h2, if_pos h3]⟩)))
  by_cases h4 : c = 4
  · exact Or.inr (Or.inr (Or.inr (Or.inr (Or.inl ⟨h4, by rw [if_neg h0, if_neg h1, if_neg h2, if_neg h3, if_pos h4]⟩))))
  · exact Or.inr (Or.inr (Or.inr (Or.inr (Or.inr ⟨by omega, by rw [if_neg h0, if_neg h1, if_neg h2, if_neg h3, if_neg h4]⟩))))
theorem ixG_inj {r c r' c' : Nat} (hr : r < 12) (hc : c < 11) (hr' : r' < 12) (hc' : c' < 11) : ixG r' c' = ixG r c ↔ r' = r ∧ c' = c := by
  constructor
  · intro h
    rcases ixG_cases (r := r) hc with q | q | q | q | q | q <;> rcases ixG_cases (r := r') hc' with p | p | p | p | p | p <;> omega
  · intro h
    rw [h.1, h.2]
theorem ixG_rng {r c : Nat} (hr : r < 12) (hc : c < 11) : 3 ≤ ixG r c ∧ ixG r c < 143 ∧ (ixG r c < 111 ∨ 119 ≤ ixG r c) := by
  rcases ixG_cases (r := r) hc with q | q | q | q | q | q <;> omega
/-- all but the guests -/
def NG (k : Nat) : Prop := k < 3 ∨ (112 ≤ k ∧ k < 119) ∨ 143 ≤ k
theorem LWr_same {t : Nat} {D D' : Nat → Nat → Int32} {w w' : Nat → Int32} (h : LWr t D w) (e0 : D' t = D t) (e1 : D' (t + 1) = D (t + 1)) (ew : ∀ k, (k = 117 ∨ (985 ≤ k ∧ k < 1049)) → w' k = w k) : LWr t D' w' := by
  obtain ⟨h0, h1, n, hn, h3, hc, hx⟩ := h
  unfold LWr
  rw [e0, e1, ew 117 (by omega)]
  refine ⟨h0, h1, n, hn, h3, hc, fun r hr => ?_⟩
  rw [ew (985 + r) (by omega), ew (1001 + r) (by omega), ew (1017 + r) (by omega), ew (1033 + r) (by omega)]
  exact hx r hr
theorem CWr_same {t : Nat} {D D' : Nat → Nat → Int32} {w w' : Nat → Int32} (h : CWr t D w) (e0 : D' t = D t) (e1 : D' (t + 1) = D (t + 1)) (ew : ∀ k, 1050 ≤ k → k < 1850 → w' k = w k) : CWr t D' w' := by
  obtain ⟨h0, h1, n, hn, h3, hx⟩ := h
  unfold CWr
  rw [e0, e1]
  refine ⟨h0, h1, n, hn, h3, fun j hj => ?_⟩
  rw [ew (1050 + 2 * j) (by omega) (by omega), ew (1050 + 2 * j + 1) (by omega) (by omega)]
  exact hx j hj
theorem HSr_oth {h : Nat} {D D' : Nat → Nat → Int32} {w w' : Nat → Int32} (H : HSr h D w) (hG : TWr (h + 1) 11 12 112 ixG D' w') (hD : ∀ j, h + 3 ≤ j → j ≤ h + 16 → D' j = D j) (hc : ∀ c, 8 ≤ c → c ≤ 11 → D' h c = D h c) (hw : ∀ k, NG k → w' k = w k) : HSr h D' w' := by
  obtain ⟨_, t2, t3, t4, t5, t6, t7, t8, c1, c2, c3, c4⟩ := H
  refine ⟨hG, TWr_same t2 (hD _ (by omega) (by omega)) (hD _ (by omega) (by omega)) (hw _ (by unfold NG; omega)) (fun r c hr hcc => hw _ (by unfold NG ixB; omega)), LWr_same t3 (hD _ (by omega) (by omega)) (hD _ (by omega) (by omega)) (fun k hk => hw k (by unfold NG; omega)), CWr_same t4 (hD _ (by omega) (by omega)) (hD _ (by omega) (by omega)) (fun k h1 h2 => hw k (by unfold NG; omega)), TWr_same t5 (hD _ (by omega) (by omega)) (hD _ (by omega) (by omega)) (hw _ (by unfold NG; omega)) (fun r c hr hcc => hw _ (by unfold NG ixS; omega)), TWr_same t6 (hD _ (by omega) (by omega)) (hD _ (by omega) (by omega)) (hw _ (by unfold NG; omega)) (fun r c hr hcc => hw _ (by unfold NG ixH; omega)), TWr_same t7 (hD _ (by omega) (by omega)) (hD _ (by omega) (by omega)) (hw _ (by unfold NG; omega)) (fun r c hr hcc => hw _ (by unfold NG ixR; omega)), TWr_same t8 (hD _ (by omega) (by omega)) (hD _ (by omega) (by omega)) (hw _ (by unfold NG; omega)) (fun r c hr hcc => hw _ (by unfold NG ixC; omega)), ?_, ?_, ?_, ?_⟩
  · rw [hc 8 (by decide) (by decide), hw 113 (by unfold NG; omega)]; exact c1
  · rw [hc 9 (by decide) (by decide), hw 114 (by unfold NG; omega)]; exact c2
  · rw [hc 10 (by decide) (by decide), hw 0 (by unfold NG; omega)]; exact c3
  · rw [hc 11 (by decide) (by decide), hw 1 (by unfold NG; omega)]; exact c4
/-- a guest's cell is put on both sides -/
theorem HSr_put {D : Nat → Nat → Int32} {E : Nat → Nat → Int32} {n g c k : Nat} {v : Int32} (H : HSr 1 D (E 89)) (h3 : D 2 3 = cn n) (hg : g < n) (hn : n ≤ 12) (hc : c < 11) (hk : k = ixG g c) : HSr 1 (mu D 3 (g * 11 + c) v) (mu E 89 k v 89) := by
  have hr := ixG_rng (r := g) (by omega) hc
  refine HSr_oth H ?_ (fun j h1 _ => mu_row (by omega)) (fun j _ _ => congrFun (mu_row (by decide)) j) (fun l hl => mu_cell (Or.inr (by unfold NG at hl; omega)))
  refine TWr_put (r := g) (c := c) (v := v) H.1 h3 hg hc (by decide) (mu_row (by decide)) (fun l => ?_) (mu_cell (Or.inr (by omega))) (fun r' c' hr' hc' => ?_)
  · show mu D 3 (g * 11 + c) v 3 l = _
    rw [mu_ap]
    by_cases e : l = g * 11 + c
    · rw [if_pos ⟨rfl, e⟩, if_pos e]
    · rw [if_neg (fun q => e q.2), if_neg e]
  · rw [mu_ap, hk]
    by_cases e : r' = g ∧ c' = c
    · rw [if_pos ⟨rfl, (ixG_inj (by omega) hc hr' hc').mpr e⟩, if_pos e]
    · rw [if_neg (fun q => e ((ixG_inj (by omega) hc hr' hc').mp q.2)), if_neg e]
/-- a number of the house is put on both sides -/
theorem HSr_num {D : Nat → Nat → Int32} {E : Nat → Nat → Int32} {c k : Nat} {v : Int32} (H : HSr 1 D (E 89)) (hck : (c = 8 ∧ k = 113) ∨ (c = 9 ∧ k = 114) ∨ (c = 10 ∧ k = 0) ∨ (c = 11 ∧ k = 1)) : HSr 1 (mu D 1 c v) (mu E 89 k v 89) := by
  obtain ⟨t1, t2, t3, t4, t5, t6, t7, t8, c1, c2, c3, c4⟩ := H
  have r : ∀ j, j ≠ 1 → mu D 1 c v j = D j := fun j hj => mu_row hj
  have q : ∀ l, l ≠ k → mu E 89 k v 89 l = E 89 l := fun l hl => mu_cell (Or.inr hl)
  refine ⟨TWr_same t1 (r _ (by decide)) (r _ (by decide)) (q _ (by omega)) (fun a b ha hb => q _ (by have := ixG_rng ha hb; omega)), TWr_same t2 (r _ (by decide)) (r _ (by decide)) (q _ (by omega)) (fun a b ha hb => q _ (by unfold ixB; omega)), LWr_same t3 (r _ (by decide)) (r _ (by decide)) (fun l hl => q l (by omega)), CWr_same t4 (r _ (by decide)) (r _ (by decide)) (fun l h1 h2 => q l (by omega)), TWr_same t5 (r _ (by decide)) (r _ (by decide)) (q _ (by omega)) (fun a b ha hb => q _ (by unfold ixS; omega)), TWr_same t6 (r _ (by decide)) (r _ (by decide)) (q _ (by omega)) (fun a b ha hb => q _ (by unfold ixH; omega)), TWr_same t7 (r _ (by decide)) (r _ (by decide)) (q _ (by omega)) (fun a b ha hb => q _ (by unfold ixR; omega)), TWr_same t8 (r _ (by decide)) (r _ (by decide)) (q _ (by omega)) (fun a b ha hb => q _ (by unfold ixC; omega)), ?_, ?_, ?_, ?_⟩
  · by_cases e : c = 8
    · have ek : k = 113 := by omega
      subst e; subst ek; exact mu_same.trans mu_same.symm
    · rw [mu_cell (Or.inr (Ne.symm e)), q 113 (by omega)]; exact c1
  · by_cases e : c = 9
    · have ek : k = 114 := by omega
      subst e; subst ek; exact mu_same.trans mu_same.symm
    · rw [mu_cell (Or.inr (Ne.symm e)), q 114 (by omega)]; exact c2
  · by_cases e : c = 10
    · have ek : k = 0 := by omega
      subst e; subst ek; exact mu_same.trans mu_same.symm
    · rw [mu_cell (Or.inr (Ne.symm e)), q 0 (by omega)]; exact c3
  · by_cases e : c = 11
    · have ek : k = 1 := by omega
      subst e; subst ek; exact mu_same.trans mu_same.symm
    · rw [mu_cell (Or.inr (Ne.symm e)), q 1 (by omega)]; exact c4
/-! a line of the book -/
theorem al_5 : m_alen (4 + 1) = 750 := by decide +kernel
theorem lt5 {c : Nat} (h : c < 5) : c = 0 ∨ c = 1 ∨ c = 2 ∨ c = 3 ∨ c = 4 := by omega
def B5 (D : Nat → Nat → Int32) (t p : Nat) (x0 x1 x2 x3 x4 : Int32) : Nat → Nat → Int32 := mu (mu (mu (mu (mu D t p x0) t (p + 1) x1) t (p + 2) x2) t (p + 3) x3) t (p + 4) x4
theorem B5_row {D : Nat → Nat → Int32} {t p j : Nat} {x0 x1 x2 x3 x4 : Int32} (h : j ≠ t) : B5 D t p x0 x1 x2 x3 x4 j = D j := by
  unfold B5
  rw [mu_row h, mu_row h, mu_row h, mu_row h, mu_row h]
theorem B5_out {D : Nat → Nat → Int32} {t p k : Nat} {x0 x1 x2 x3 x4 : Int32} (h : k < p ∨ p + 5 ≤ k) : B5 D t p x0 x1 x2 x3 x4 t k = D t k := by
  unfold B5
  rw [mu_cell (Or.inr (by omega)), mu_cell (Or.inr (by omega)), mu_cell (Or.inr (by omega)), mu_cell (Or.inr (by omega)), mu_cell (Or.inr (by omega))]
theorem B5_in {D : Nat → Nat → Int32} {t p c : Nat} {x0 x1 x2 x3 x4 : Int32} (h : c < 5) : B5 D t p x0 x1 x2 x3 x4 t (p + c) = [x0, x1, x2, x3, x4].getD c 0 := by
  unfold B5
  rcases lt5 h with e | e | e | e | e <;> subst e
  · rw [mu_cell (Or.inr (by omega)), mu_cell (Or.inr (by omega)), mu_cell (Or.inr (by omega)), mu_cell (Or.inr (by omega)), Nat.add_zero, mu_same]; rfl
  · rw [mu_cell (Or.inr (by omega)), mu_cell (Or.inr (by omega)), mu_cell (Or.inr (by omega)), mu_same]; rfl
  · rw [mu_cell (Or.inr (by omega)), mu_cell (Or.inr (by omega)), mu_same]; rfl
  · rw [mu_cell (Or.inr (by omega)), mu_same]; rfl
  · rw [mu_same]; rfl
/-- the class writes a line .. -/
theorem V_write {a : mG} {nb : Nat} {x y z u : Int32} (h0 : a.1 4 0 = cn 150) (h1 : a.1 4 1 = cn 5) (h3 : a.1 4 3 = cn nb) (hb : nb ≤ 150) : F_X2_write 1 x y z u a = some (if nb < 150 then (B5 (mu a.1 4 3 (cn (nb + 1))) 5 (nb * 5) (a.1 1 10) x y z u, a.2) else a) := by
  unfold F_X2_write
  rw [show (1 + 3 : Nat) = 4 from rfl, V_full h0 h3 (by omega) (by decide)]
  by_cases hn : nb < 150
  · rw [if_pos hn, if_pos hn, b1_some, if_pos c0e0, V_add h0 h3 (by decide) hn, b2_some]
    have put : ∀ (D : Nat → Nat → Int32) (c : Nat) (k v : Int32), k = cn c → c < 5 → D 4 = mu a.1 4 3 (cn (nb + 1)) 4 → F_X10_put 4 (cn nb) k v (D, a.2) = some (mu D 5 (nb * 5 + c) v, a.2) := fun D c k v hk hc hD => by
      refine V_put (t := 4) (s := (D, a.2)) (r := nb) (c := c) (n := nb + 1) (W := 5) rfl hk ?_ ?_ (by omega) hc (by rw [al_5]; omega) (by omega)
      · show D 4 1 = _
        rw [hD, mu_cell (by decide)]; exact h1
      · show D 4 3 = _
        rw [hD, mu_same]
    have e10 : ((mu a.1 4 3 (cn (nb + 1)), a.2) : mG).1 1 10 = a.1 1 10 := congrFun (mu_rowQ (by decide)) 10
    rw [e10, put _ 0 (ci 0) _ rfl (by decide) rfl, b1_some, put _ 1 (ci 1) _ rfl (by decide) (mu_row (by decide)), b1_some, put _ 2 (ci 2) _ rfl (by decide) ((mu_row (by decide)).trans (mu_row (by decide))), b1_some, put _ 3 (ci 3) _ rfl (by decide) ((mu_row (by decide)).trans ((mu_row (by decide)).trans (mu_row (by decide)))), b1_some, put _ 4 (ci 4) _ rfl (by decide) ((mu_row (by decide)).trans ((mu_row (by decide)).trans ((mu_row (by decide)).trans (mu_row (by decide))))), b1_some]
    rfl
  · rw [if_neg hn, if_neg hn, b1_some, if_neg c1n0]
/-- .. and the reference -/
theorem V_notes {b : mG} {nb : Nat} {x y z u : Int32} (h : b.1 89 2 = cn nb) (hb : nb ≤ 150) : pk (F_X12_notes x y z u b) (fun s => s = if nb < 150 then (mu (B5 b.1 89 (235 + 5 * nb) (b.1 89 0) x y z u) 89 2 (cn (nb + 1)), b.2) else b) := by
  unfold F_X12_notes
  rw [h]
  by_cases hn : nb < 150
  · rw [if_neg (fun e => absurd ((cn_inj (b := 150) (by omega) (by decide)).mp (e.trans (by decide))) (by omega)), if_pos hn]
    have e5 : c16 235 + (ci 5) * cn nb = cn (235 + 5 * nb) := by
      rw [show (ci 5) * cn nb = cn (5 * nb) from cn_mul (a := 5) (by omega) (by omega) (by omega)]
      exact cn_add (a := 235) (by omega)
    dsimp only
    rw [e5, show cn (235 + 5 * nb) + ci 1 = cn (235 + 5 * nb + 1) from cn_add (b := 1) (by omega), show cn (235 + 5 * nb) + ci 2 = cn (235 + 5 * nb + 2) from cn_add (b := 2) (by omega), show cn (235 + 5 * nb) + ci 3 = cn (235 + 5 * nb + 3) from cn_add (b := 3) (by omega), show cn (235 + 5 * nb) + ci 4 = cn (235 + 5 * nb + 4) from cn_add (b := 4) (by omega), cn_nat (n := 235 + 5 * nb) (by omega), cn_nat (n := 235 + 5 * nb + 1) (by omega), cn_nat (n := 235 + 5 * nb + 2) (by omega), cn_nat (n := 235 + 5 * nb + 3) (by omega), cn_nat (n := 235 + 5 * nb + 4) (by omega)]
    have e2 : mu (mu (mu (mu (mu b.1 89 (235 + 5 * nb) (b.1 89 0)) 89 (235 + 5 * nb + 1) x) 89 (235 + 5 * nb + 2) y) 89 (235 + 5 * nb + 3) z) 89 (235 + 5 * nb + 4) u 89 2 = cn nb := by
      rw [mu_cell (Or.inr (by omega)), mu_cell (Or.inr (by omega)), mu_cell (Or.inr (by omega)), mu_cell (Or.inr (by omega)), mu_cell (Or.inr (by omega))]
      exact h
    rw [e2, cnu (by omega)]
    exact pk_nn (pk_nn (pk_nn (pk_nn (pk_nn (pk_some rfl)))))
  · rw [if_pos (show cn nb = c16 150 by rw [show nb = 150 by omega]; decide), if_neg hn]
    exact pk_some rfl
theorem HSr_book {D E : Nat → Nat → Int32} {nb : Nat} {x0 x y z u : Int32} (H : HSr 1 D (E 89)) (h3 : D 4 3 = cn nb) (hn : nb < 150) : HSr 1 (B5 (mu D 4 3 (cn (nb + 1))) 5 (nb * 5) x0 x y z u) (mu (B5 E 89 (235 + 5 * nb) x0 x y z u) 89 2 (cn (nb + 1)) 89) := by
  obtain ⟨t1, t2, t3, t4, t5, t6, t7, t8, c1, c2, c3, c4⟩ := H
  have r : ∀ j, j ≠ 4 → j ≠ 5 → B5 (mu D 4 3 (cn (nb + 1))) 5 (nb * 5) x0 x y z u j = D j := fun j h1 h2 => (B5_row h2).trans (mu_row h1)
  have q : ∀ l, l ≠ 2 → (l < 235 ∨ 985 ≤ l) → mu (B5 E 89 (235 + 5 * nb) x0 x y z u) 89 2 (cn (nb + 1)) 89 l = E 89 l := fun l h1 h2 => (mu_cell (Or.inr h1)).trans (B5_out (by omega))
  refine ⟨TWr_same t1 (r _ (by decide) (by decide)) (r _ (by decide) (by decide)) (q _ (by omega) (by omega)) (fun a b ha hb => q _ (by have := ixG_rng ha hb; omega) (by have := ixG_rng ha hb; omega)), ?_, LWr_same t3 (r _ (by decide) (by decide)) (r _ (by decide) (by decide)) (fun l hl => q l (by omega) (by omega)), CWr_same t4 (r _ (by decide) (by decide)) (r _ (by decide) (by decide)) (fun l h1 h2 => q l (by omega) (by omega)), TWr_same t5 (r _ (by decide) (by decide)) (r _ (by decide) (by decide)) (q _ (by omega) (by omega)) (fun a b ha hb => q _ (by unfold ixS; omega) (by unfold ixS; omega)), TWr_same t6 (r _ (by decide) (by decide)) (r _ (by decide) (by decide)) (q _ (by omega) (by omega)) (fun a b ha hb => q _ (by unfold ixH; omega) (by unfold ixH; omega)), TWr_same t7 (r _ (by decide) (by decide)) (r _ (by decide) (by decide)) (q _ (by omega) (by omega)) (fun a b ha hb => q _ (by unfold ixR; omega) (by unfold ixR; omega)), TWr_same t8 (r _ (by decide) (by decide)) (r _ (by decide) (by decide)) (q _ (by omega) (by omega)) (fun a b ha hb => q _ (by unfold ixC; omega) (by unfold ixC; omega)), ?_, ?_, ?_, ?_⟩
  · refine TWr_add (n := nb) t2 h3 hn (by decide) (fun c hc => ?_) ?_ (fun k hk => ?_) mu_same (fun a b ha hb => ?_) (fun c hc => ?_)
    · rw [B5_row (by decide)]; exact mu_cell (Or.inr hc)
    · rw [B5_row (by decide)]; exact mu_same
    · show B5 _ 5 (nb * 5) x0 x y z u 5 k = D 5 k
      rw [B5_out (by omega)]; exact congrFun (mu_row (by decide)) k
    · rw [mu_cell (Or.inr (by unfold ixB; omega))]
      exact B5_out (by unfold ixB; omega)
    · show B5 _ 5 (nb * 5) x0 x y z u 5 (nb * 5 + c) = _
      rw [B5_in hc, mu_cell (Or.inr (by unfold ixB; omega)), show ixB nb c = 235 + 5 * nb + c from rfl, B5_in hc]
  · rw [r 1 (by decide) (by decide), q 113 (by decide) (by decide)]; exact c1
  · rw [r 1 (by decide) (by decide), q 114 (by decide) (by decide)]; exact c2
  · rw [r 1 (by decide) (by decide), q 0 (by decide) (by decide)]; exact c3
  · rw [r 1 (by decide) (by decide), q 1 (by decide) (by decide)]; exact c4
/-- both write a line -/
theorem R_write {a b : mG} {x y z u : Int32} (H : HSr 1 a.1 (b.1 89)) : rel (F_X2_write 1 x y z u a) (F_X12_notes x y z u b) (fun s t => HSr 1 s.1 (t.1 89) ∧ (∀ j, j ≠ 4 → j ≠ 5 → s.1 j = a.1 j) ∧ (∀ j, j ≠ 89 → t.1 j = b.1 j) ∧ (∀ k, k ≠ 2 → (k < 235 ∨ 985 ≤ k) → t.1 89 k = b.1 89 k) ∧ (b.1 89 2).toInt ≤ (t.1 89 2).toInt) := by
  have H0 := H
  obtain ⟨_, ⟨t0, t1, nb, hb, t3, tc, _⟩, _, _, _, _, _, _, _, _, c3, _⟩ := H
  rw [V_write t0 t1 t3 hb]
  intro s hs t ht
  have et := V_notes tc hb t ht
  have es := Option.some.inj hs
  subst et; subst es
  by_cases hn : nb < 150
  · rw [if_pos hn, if_pos hn, c3]
    refine ⟨HSr_book H0 t3 hn, fun j h1 h2 => ?_, fun j hj => ?_, fun k h1 h2 => ?_, ?_⟩
    all_goals dsimp only
    · exact (B5_row h2).trans (mu_row h1)
    · exact (mu_row hj).trans (B5_row hj)
    · exact (mu_cell (Or.inr h1)).trans (B5_out (by omega))
    · rw [mu_same, tc, t_cn (by omega), t_cn (by omega)]; omega
  · rw [if_neg hn, if_neg hn]
    exact ⟨H0, fun _ _ _ => rfl, fun _ _ => rfl, fun _ _ _ => rfl, Int.le_refl _⟩
/-! who hangs on a hook; which clerk stands at a door -/
theorem whl_cong {σ ρ : Type} {f g : σ → Option (σ ⊕ ρ)} (P : σ → Prop) (hfg : ∀ v, P v → f v = g v) (hP : ∀ v v', P v → f v = some (.inl v') → P v') : ∀ v x, P v → whl f v = some x → whl g v = some x := by
  intro v x hv h
  obtain ⟨n, hn⟩ := whl_spec.mp h
  refine whl_spec.mpr ⟨n, ?_⟩
  clear h
  induction n generalizing v with
  | zero => cases hn
  | succ n ih =>
    unfold lp at hn ⊢
    rw [← hfg v hv]
    cases hf : f v with
    | none => rw [hf] at hn; cases hn
    | some s =>
      rw [hf] at hn
      cases s with
      | inl v' => exact ih v' (hP v v' hv hf) hn
      | inr a => exact hn
theorem rel_cong {σ ρ : Type} {f g : σ → Option (σ ⊕ ρ)} (P : σ → Prop) {Q : ρ → Prop} {v : σ} (hv : P v) (h : ∀ v, P v → rel (f v) (g v) (fun x y => x = y ∧ se P Q x)) : rel (whl f v) (whl g v) (fun x y => x = y ∧ Q x) := fun x hx y hy => by
  obtain ⟨n, hn⟩ := whl_spec.mp hx
  obtain ⟨m, hm⟩ := whl_spec.mp hy
  clear hx hy
  induction n generalizing v m with
  | zero => cases hn
  | succ n ih =>
    cases m with
    | zero => cases hm
    | succ m =>
      unfold lp at hn hm
      cases hf : f v with
      | none => rw [hf] at hn; cases hn
      | some s =>
        cases hg : g v with
        | none => rw [hg] at hm; cases hm
        | some t =>
          obtain ⟨e, q⟩ := h v hv s hf t hg
          subst e
          rw [hf] at hn
          rw [hg] at hm
          cases s with
          | inl v' => exact ih q hn m hm
          | inr a =>
            have e1 := Option.some.inj hn
            have e2 := Option.some.inj hm
            subst e1; subst e2
            exact ⟨rfl, q⟩
theorem R_keyOn {a b : mG} {n : Nat} {x : Int32} (H : HSr 1 a.1 (b.1 89)) (h3 : a.1 2 3 = cn n) (hn : n ≤ 12) : rel (F_X2_keyOn 1 a x) (F_X12_keyOn b x) (fun u v => u = v) := by
  have h112 : b.1 89 112 = cn n := by
    obtain ⟨⟨_, _, m, hm, g3, gc, _⟩, _⟩ := H
    rw [gc]; exact g3.symm.trans h3
  unfold F_X2_keyOn F_X12_keyOn F_X2_keyOn_L2 F_X12_keyOn_L2
  refine rel_mono (rel_cong (fun v => v.1 = x ∧ ∃ r, r ≤ n ∧ v.2 = cn r) (Q := fun _ => True) ⟨rfl, 0, Nat.zero_le _, rfl⟩ (fun v hv => ?_)) (fun u v q => q.1)
  obtain ⟨x1, x2⟩ := v
  obtain ⟨e1, r, hr, e2⟩ := hv
  have e1 : x1 = x := e1
  have e2 : x2 = cn r := e2
  subst e1; subst e2
  unfold F_X2_keyOn_B2 F_X12_keyOn_B2
  dsimp only
  rw [show a.1 (1 + 1) 3 = cn n from h3, h112]
  by_cases hrn : n ≤ r
  · rw [if_pos ((cn_le (by omega) (by omega)).mpr hrn), if_pos ((cn_le (by omega) (by omega)).mpr hrn)]
    exact rel_some ⟨rfl, trivial⟩
  · rw [if_neg (fun q => hrn ((cn_le (by omega) (by omega)).mp q)), if_neg (fun q => hrn ((cn_le (by omega) (by omega)).mp q)), show c8 15 + cn r = cn (15 + r) from cn_add (a := 15) (by omega), cn_nat (n := 15 + r) (by omega), show (1 + 1 : Nat) = 2 from rfl, V_atG (c := 3) (k := ci 3) H.1 h3 hn (by omega) (by decide) rfl, b1_some]
    refine rel_rg ?_
    rw [show ixG r 3 = 15 + r from rfl]
    by_cases e : b.1 89 (15 + r) = x1
    · rw [if_pos e]; exact rel_some ⟨rfl, trivial⟩
    · rw [if_neg e]; exact rel_some ⟨rfl, rfl, r + 1, by omega, cnu (by omega)⟩
theorem al_13 : m_alen (12 + 1) = 48 := by decide +kernel
theorem V_atH {w : Nat → Int32} {s : mG} {n g c : Nat} {k : Int32} (hG : TWr 12 4 12 116 ixH s.1 w) (h3 : s.1 12 3 = cn n) (hn : n ≤ 12) (hg : g < n) (hc : c < 4) (hk : k = cn c) : F_X10_at 12 s (cn g) k = some (w (ixH g c)) := TWr_at hG h3 hn hg hc rfl hk (by decide) (by rw [al_13]; decide)
theorem R_clerkAt {a b : mG} {x : Int32} (H : HSr 1 a.1 (b.1 89)) : rel (F_X2_clerkAt 1 a x) (F_X12_clerkAt b x) (fun u v => u = v) := by
  obtain ⟨_, _, _, _, _, tH, _, _, _, _, c3, _⟩ := H
  have tH0 := tH
  obtain ⟨_, _, n, hn, h3, h116, _⟩ := tH
  unfold F_X2_clerkAt F_X12_clerkAt F_X2_clerkAt_L2 F_X12_clerkAt_L2
  refine rel_mono (rel_cong (fun v => v.1 = x ∧ ∃ r, r ≤ n ∧ v.2 = cn r) (Q := fun _ => True) ⟨rfl, 0, Nat.zero_le _, rfl⟩ (fun v hv => ?_)) (fun u v q => q.1)
  obtain ⟨x1, x2⟩ := v
  obtain ⟨e1, r, hr, e2⟩ := hv
  have e1 : x1 = x := e1
  have e2 : x2 = cn r := e2
  subst e1; subst e2
  unfold F_X2_clerkAt_B2 F_X12_clerkAt_B2 F_X2_clerkAt_73 F_X12_clerkAt_75
  dsimp only
  rw [show a.1 (1 + 11) 3 = cn n from h3, h116]
  by_cases hrn : n ≤ r
  · rw [if_pos ((cn_le (by omega) (by omega)).mpr hrn), if_pos ((cn_le (by omega) (by omega)).mpr hrn)]
    exact rel_some ⟨rfl, trivial⟩
  · have e4 : c16 155 + (ci 4) * cn r = cn (155 + 4 * r) := by
      rw [show (ci 4) * cn r = cn (4 * r) from cn_mul (a := 4) (by omega) (by omega) (by omega)]
      exact cn_add (a := 155) (by omega)
    rw [if_neg (fun q => hrn ((cn_le (by omega) (by omega)).mp q)), if_neg (fun q => hrn ((cn_le (by omega) (by omega)).mp q)), show (1 + 11 : Nat) = 12 from rfl, V_atH (c := 1) (k := ci 1) tH0 h3 hn (by omega) (by decide) rfl, b1_some, V_atH (c := 3) (k := ci 3) tH0 h3 hn (by omega) (by decide) rfl, b1_some, V_atH (c := 2) (k := ci 2) tH0 h3 hn (by omega) (by decide) rfl, b1_some, V_atH (c := 0) (k := ci 0) tH0 h3 hn (by omega) (by decide) rfl, b1_some, c3, e4, show cn (155 + 4 * r) + ci 3 = cn (155 + 4 * r + 3) from cn_add (b := 3) (by omega), show cn (155 + 4 * r) + ci 1 = cn (155 + 4 * r + 1) from cn_add (b := 1) (by omega), show cn (155 + 4 * r) + ci 2 = cn (155 + 4 * r + 2) from cn_add (b := 2) (by omega), cn_nat (n := 155 + 4 * r + 3) (by omega), cn_nat (n := 155 + 4 * r + 1) (by omega), cn_nat (n := 155 + 4 * r + 2) (by omega), cn_nat (n := 155 + 4 * r) (by omega)]
    refine rel_rg ?_
    rw [show ixH r 3 = 155 + 4 * r + 3 from rfl, show ixH r 1 = 155 + 4 * r + 1 from rfl, show ixH r 2 = 155 + 4 * r + 2 from rfl, show ixH r 0 = 155 + 4 * r from rfl]
    by_cases e : b.1 89 (155 + 4 * r + 3) = x1
    · rw [if_pos e, if_pos e]
      refine rel_rg (rel_rg ?_)
      refine rel_ifs Iff.rfl (fun _ => ?_) (fun _ => ?_)
      · exact rel_some ⟨rfl, rfl, r + 1, by omega, cnu (by omega)⟩
      · exact rel_rg (rel_some ⟨rfl, trivial⟩)
    · rw [if_neg e, if_neg e]
      exact rel_some ⟨rfl, rfl, r + 1, by omega, cnu (by omega)⟩
end
