noncomputable section
/-! ROOMS AND CALLERS NAME GUESTS OF THE HOUSE -/
def CRw (w : Nat → Int32) : Prop := (∀ k : Nat, k < 8 → (k : Int) < (w 118).toInt → 0 ≤ (w (203 + 4 * k)).toInt ∧ (w (203 + 4 * k)).toInt < (w 112).toInt) ∧ ∀ k : Nat, k < 8 → (k : Int) < (w 1049).toInt → (0 ≤ (w (1870 + 3 * k)).toInt ∧ (w (1870 + 3 * k)).toInt < (w 112).toInt) ∧ (0 ≤ (w (1870 + 3 * k + 1)).toInt ∧ (w (1870 + 3 * k + 1)).toInt ≤ 999) ∧ 0 ≤ (w (1870 + 3 * k + 2)).toInt ∧ (w (1870 + 3 * k + 2)).toInt ≤ 999
def CRs (s : mG) : Prop := CRw (s.1 89) ∧ (s.1 88 4 ≠ 0 → CRw (s.1 90))
theorem SK_112 : SK 112 := Or.inl rfl
theorem SK_118 : SK 118 := Or.inr (Or.inl rfl)
theorem SK_1049 : SK 1049 := Or.inr (Or.inr (Or.inr (Or.inl rfl)))
theorem SK_rm {j : Nat} (h : 203 ≤ j ∧ j ≤ 234) : SK j := Or.inr (Or.inr (Or.inl h))
theorem SK_cl {j : Nat} (h : 1870 ≤ j ∧ j ≤ 1893) : SK j := Or.inr (Or.inr (Or.inr (Or.inr h)))
theorem SK_lt {j : Nat} (h : SK j) : j < 1894 := by
  unfold SK at h
  omega
theorem CRw_of {w v : Nat → Int32} (h : CRw w) (e112 : (w 112).toInt ≤ (v 112).toInt) (e118 : v 118 = w 118) (e1049 : v 1049 = w 1049) (er : ∀ j, 203 ≤ j → j ≤ 234 → v j = w j) (ec : ∀ j, 1870 ≤ j → j ≤ 1893 → v j = w j) : CRw v := by
  obtain ⟨h1, h2⟩ := h
  refine ⟨fun k hk hkn => ?_, fun k hk hkn => ?_⟩
  · rw [e118] at hkn
    rw [er _ (by omega) (by omega)]
    have q := h1 k hk hkn
    exact ⟨q.1, Int.lt_of_lt_of_le q.2 e112⟩
  · rw [e1049] at hkn
    rw [ec _ (by omega) (by omega), ec (1870 + 3 * k + 1) (by omega) (by omega), ec (1870 + 3 * k + 2) (by omega) (by omega)]
    have q := h2 k hk hkn
    exact ⟨⟨q.1.1, Int.lt_of_lt_of_le q.1.2 e112⟩, q.2⟩
theorem CRw_SK {w v : Nat → Int32} (h : CRw w) (e : ∀ j, SK j → v j = w j) : CRw v := CRw_of h (by rw [e 112 SK_112]; exact Int.le_refl _) (e 118 SK_118) (e 1049 SK_1049) (fun j h1 h2 => e j (SK_rm ⟨h1, h2⟩)) (fun j h1 h2 => e j (SK_cl ⟨h1, h2⟩))
theorem CRs_keep {s u : mG} (h : CRs s) (e : ∀ j, SK j → u.1 89 j = s.1 89 j) (e4 : u.1 88 4 = s.1 88 4) (e90 : u.1 90 = s.1 90) : CRs u := by
  refine ⟨CRw_SK h.1 e, ?_⟩
  rw [e4, e90]
  exact h.2
theorem CRs_rows {s u : mG} (h : CRs s) (e : ∀ j, 88 ≤ j → u.1 j = s.1 j) : CRs u := CRs_keep h (fun j _ => by rw [e 89 (by decide)]) (by rw [e 88 (by decide)]) (e 90 (by decide))
theorem CRs_RT {s u : mG} (h : CRs s) (r : RT s u) : CRs u := CRs_keep h (fun j _ => by rw [r.1 89 (by decide) (by decide)]) r.2.2.1 (r.1 90 (by decide) (by decide))
theorem ok_pk {α : Type} {o : Option α} {P : α → Prop} (h : ok o P) : pk o P := fun a e => by
  obtain ⟨x, e1, hx⟩ := h
  rw [e1] at e
  rw [← Option.some.inj e]
  exact hx
/-- those that keep these cells -/
theorem CR_of {α : Type} {G : Option (α × mG)} {M : Nat} {u : mG} (hM : M.testBit 90 = false) (h : CRs u) (h1 : pk G (fun υ => ∀ j, SK j → υ.2.1 89 j = u.1 89 j)) (h2 : pk G (fun υ => KV 88 4 (u.1 88 4) υ.2)) (h3 : pk G (fun υ => KB M u υ.2)) : pk G (fun υ => CRs υ.2) := fun υ e => CRs_keep h (h1 υ e) (h2 υ e) (h3 υ e 90 hM)
theorem CR_guest {a1 a2 : Int32} {u : mG} (hI : IM u) (h : CRs u) {τ : Int32 × mG} (q : GU a1 a2 u τ) (e4 : τ.2.1 88 4 = u.1 88 4) (e90 : τ.2.1 90 = u.1 90) : CRs τ.2 := by
  obtain ⟨_, _, q3, q4⟩ := q
  have i := im_112 hI
  refine ⟨CRw_of h.1 ?_ (q4 118 SK_118 (by decide)) (q4 1049 SK_1049 (by decide)) (fun j h1 h2 => q4 j (SK_rm ⟨h1, h2⟩) (by omega)) (fun j h1 h2 => q4 j (SK_cl ⟨h1, h2⟩) (by omega)), ?_⟩
  · rw [q3]
    unfold gdl
    by_cases c : wi a1 (ci 0) (ci 3) = 0 ∨ wi a2 (ci 0) (c8 99) = 0 ∨ u.1 89 112 = c8 12
    · rw [if_pos c]; exact Int.le_refl _
    · rw [if_neg c, r_add (rfl : (u.1 89 112).toInt = _) (by decide : (ci 1).toInt = 1) (by omega) (by omega)]
      omega
  · rw [e4, e90]
    exact h.2
theorem wi_r {x a b : Int32} {A B : Int} (h : ¬ wi x a b = 0) (ha : a.toInt = A) (hb : b.toInt = B) : A ≤ x.toInt ∧ x.toInt ≤ B := by
  rw [← ha, ← hb]
  exact wi_f h
theorem CR_caller {a1 a2 a3 : Int32} {u : mG} (hI : IM u) (h : CRs u) : pk (F_X12_caller a1 a2 a3 u) (fun τ => CRs τ.2) := by
  obtain ⟨n, hn, eN⟩ : ∃ n : Nat, n ≤ 12 ∧ u.1 89 112 = cn n := ⟨(u.1 89 112).toInt.toNat, by have := im_112 hI; omega, cnof (im_112 hI).1⟩
  obtain ⟨m, hm, eM⟩ : ∃ m : Nat, m ≤ 8 ∧ u.1 89 1049 = cn m := ⟨(u.1 89 1049).toInt.toNat, by have := im_1049 hI; omega, cnof (im_1049 hI).1⟩
  unfold F_X12_caller F_X12_caller_59
  refine pk_li (fun _ => pk_some (show CRs _ from ?_)) (fun _ => ?_)
  · refine ⟨⟨fun k hk hkn => ?_, fun k hk hkn => ?_⟩, h.2⟩
    · have e : ∀ j, j ≠ 1049 → mu u.1 89 1049 (ci 0) 89 j = u.1 89 j := fun j hj => mu_cell (Or.inr hj)
      have hkn : (k : Int) < (mu u.1 89 1049 (ci 0) 89 118).toInt := hkn
      show 0 ≤ (mu u.1 89 1049 (ci 0) 89 (203 + 4 * k)).toInt ∧ (mu u.1 89 1049 (ci 0) 89 (203 + 4 * k)).toInt < (mu u.1 89 1049 (ci 0) 89 112).toInt
      rw [e 118 (by omega)] at hkn
      rw [e _ (by omega), e 112 (by omega)]
      exact h.1.1 k hk hkn
    · exact absurd hkn (by show ¬ (k : Int) < (ci 0).toInt; rw [show (ci 0).toInt = 0 by decide]; omega)
  rw [V_isGuestR eN hn, b1_some]
  refine pk_li (fun _ => pk_some (show CRs u from h)) (fun c1 => ?_)
  obtain ⟨g, hg, ex⟩ := ig_cn (by omega) c1
  rw [F_isIn, b1_some]
  refine pk_li (fun _ => pk_some (show CRs u from h)) (fun c2 => ?_)
  rw [F_isIn, b1_some]
  refine pk_li (fun _ => pk_some (show CRs u from h)) (fun c3 => ?_)
  refine pk_li (fun _ => pk_some (show CRs u from h)) (fun c4 => ?_)
  have r2 := wi_r c2 (by decide : (ci 0).toInt = 0) (by decide : (c16 999).toInt = 999)
  have r3 := wi_r c3 (by decide : (ci 0).toInt = 0) (by decide : (c16 999).toInt = 999)
  dsimp only
  rw [eM] at c4 ⊢
  have m8 : m < 8 := by
    refine Nat.lt_of_not_le (fun q => c4 ?_)
    rw [show m = 8 by omega]
    decide
  rw [show ci 3 * cn m = cn (3 * m) from cn_mul (a := 3) (by omega) (by omega) (by omega), show c16 1870 + cn (3 * m) = cn (1870 + 3 * m) from cn_add (a := 1870) (by omega), show cn (1870 + 3 * m) + ci 1 = cn (1870 + 3 * m + 1) from cn_add (b := 1) (by omega), show cn (1870 + 3 * m) + ci 2 = cn (1870 + 3 * m + 2) from cn_add (b := 2) (by omega), cn_nat (n := 1870 + 3 * m) (by omega), cn_nat (n := 1870 + 3 * m + 1) (by omega), cn_nat (n := 1870 + 3 * m + 2) (by omega)]
  refine pk_nn (pk_nn (pk_nn (pk_some ?_)))
  have z : ∀ j, j ≠ 1870 + 3 * m → j ≠ 1870 + 3 * m + 1 → j ≠ 1870 + 3 * m + 2 → mu (mu (mu u.1 89 (1870 + 3 * m) a1) 89 (1870 + 3 * m + 1) a2) 89 (1870 + 3 * m + 2) a3 89 j = u.1 89 j := fun j h1 h2 h3 => by
    rw [mu_cell (Or.inr h3), mu_cell (Or.inr h2), mu_cell (Or.inr h1)]
  have z0 : mu (mu (mu u.1 89 (1870 + 3 * m) a1) 89 (1870 + 3 * m + 1) a2) 89 (1870 + 3 * m + 2) a3 89 (1870 + 3 * m) = a1 := by
    rw [mu_cell (Or.inr (by omega)), mu_cell (Or.inr (by omega)), mu_same]
  have z1 : mu (mu (mu u.1 89 (1870 + 3 * m) a1) 89 (1870 + 3 * m + 1) a2) 89 (1870 + 3 * m + 2) a3 89 (1870 + 3 * m + 1) = a2 := by
    rw [mu_cell (Or.inr (by omega)), mu_same]
  have z2 : mu (mu (mu u.1 89 (1870 + 3 * m) a1) 89 (1870 + 3 * m + 1) a2) 89 (1870 + 3 * m + 2) a3 89 (1870 + 3 * m + 2) = a3 := mu_same
  have zr : ∀ j, j ≠ 89 → mu (mu (mu u.1 89 (1870 + 3 * m) a1) 89 (1870 + 3 * m + 1) a2) 89 (1870 + 3 * m + 2) a3 j = u.1 j := fun j hj => by
    rw [mu_row hj, mu_row hj, mu_row hj]
  show CRs (mu (mu (mu (mu u.1 89 (1870 + 3 * m) a1) 89 (1870 + 3 * m + 1) a2) 89 (1870 + 3 * m + 2) a3) 89 1049 (mu (mu (mu u.1 89 (1870 + 3 * m) a1) 89 (1870 + 3 * m + 1) a2) 89 (1870 + 3 * m + 2) a3 89 1049 + ci 1), u.2)
  generalize mu (mu (mu u.1 89 (1870 + 3 * m) a1) 89 (1870 + 3 * m + 1) a2) 89 (1870 + 3 * m + 2) a3 = D at z z0 z1 z2 zr ⊢
  have y : ∀ j, j ≠ 1049 → mu D 89 1049 (D 89 1049 + ci 1) 89 j = D 89 j := fun j hj => mu_cell (Or.inr hj)
  have y1 : mu D 89 1049 (D 89 1049 + ci 1) 89 1049 = cn (m + 1) := by
    rw [mu_same, z 1049 (by omega) (by omega) (by omega), eM]
    exact cnu (by omega)
  have yr : ∀ j, j ≠ 89 → mu D 89 1049 (D 89 1049 + ci 1) j = u.1 j := fun j hj => (mu_row hj).trans (zr j hj)
  generalize mu D 89 1049 (D 89 1049 + ci 1) = E at y y1 yr ⊢
  have x : ∀ j, j ≠ 1049 → j ≠ 1870 + 3 * m → j ≠ 1870 + 3 * m + 1 → j ≠ 1870 + 3 * m + 2 → E 89 j = u.1 89 j := fun j h0 h1 h2 h3 => (y j h0).trans (z j h1 h2 h3)
  obtain ⟨⟨h1, h2⟩, h3⟩ := h
  refine ⟨⟨fun k hk hkn => ?_, fun k hk hkn => ?_⟩, ?_⟩
  · have hkn : (k : Int) < (E 89 118).toInt := hkn
    show 0 ≤ (E 89 (203 + 4 * k)).toInt ∧ (E 89 (203 + 4 * k)).toInt < (E 89 112).toInt
    rw [x 118 (by omega) (by omega) (by omega) (by omega)] at hkn
    rw [x (203 + 4 * k) (by omega) (by omega) (by omega) (by omega), x 112 (by omega) (by omega) (by omega) (by omega)]
    exact h1 k hk hkn
  · have hkn : (k : Int) < (E 89 1049).toInt := hkn
    show (0 ≤ (E 89 (1870 + 3 * k)).toInt ∧ (E 89 (1870 + 3 * k)).toInt < (E 89 112).toInt) ∧ (0 ≤ (E 89 (1870 + 3 * k + 1)).toInt ∧ (E 89 (1870 + 3 * k + 1)).toInt ≤ 999) ∧ 0 ≤ (E 89 (1870 + 3 * k + 2)).toInt ∧ (E 89 (1870 + 3 * k + 2)).toInt ≤ 999
    rw [y1, t_cn (by omega)] at hkn
    rw [x 112 (by omega) (by omega) (by omega) (by omega)]
    by_cases e : k = m
    · rw [e, y _ (by omega), z0, y _ (by omega), z1, y _ (by omega), z2, ex, eN, t_cn (by omega), t_cn (by omega)]
      exact ⟨⟨by omega, by omega⟩, r2, r3⟩
    · rw [x (1870 + 3 * k) (by omega) (by omega) (by omega) (by omega), x (1870 + 3 * k + 1) (by omega) (by omega) (by omega) (by omega), x (1870 + 3 * k + 2) (by omega) (by omega) (by omega) (by omega)]
      exact h2 k hk (by rw [eM, t_cn (by omega)]; omega)
  · show E 88 4 ≠ 0 → CRw (E 90)
    rw [yr 88 (by decide), yr 90 (by decide)]
    exact h3
theorem CR_room {a1 a2 a3 a4 : Int32} {u : mG} (hI : IM u) (h : CRs u) : pk (F_X12_room a1 a2 a3 a4 u) (fun τ => CRs τ.2) := by
  obtain ⟨n, hn, eN⟩ : ∃ n : Nat, n ≤ 12 ∧ u.1 89 112 = cn n := ⟨(u.1 89 112).toInt.toNat, by have := im_112 hI; omega, cnof (im_112 hI).1⟩
  obtain ⟨m, hm, eM⟩ : ∃ m : Nat, m ≤ 8 ∧ u.1 89 118 = cn m := ⟨(u.1 89 118).toInt.toNat, by have := im_118 hI; omega, cnof (im_118 hI).1⟩
  unfold F_X12_room F_X12_room_67
  refine pk_li (fun _ => pk_some (show CRs _ from ?_)) (fun _ => ?_)
  · refine ⟨⟨fun k hk hkn => ?_, fun k hk hkn => ?_⟩, h.2⟩
    · exact absurd hkn (by show ¬ (k : Int) < (ci 0).toInt; rw [show (ci 0).toInt = 0 by decide]; omega)
    · have e : ∀ j, j ≠ 118 → mu u.1 89 118 (ci 0) 89 j = u.1 89 j := fun j hj => mu_cell (Or.inr hj)
      have hkn : (k : Int) < (mu u.1 89 118 (ci 0) 89 1049).toInt := hkn
      show (0 ≤ (mu u.1 89 118 (ci 0) 89 (1870 + 3 * k)).toInt ∧ (mu u.1 89 118 (ci 0) 89 (1870 + 3 * k)).toInt < (mu u.1 89 118 (ci 0) 89 112).toInt) ∧ (0 ≤ (mu u.1 89 118 (ci 0) 89 (1870 + 3 * k + 1)).toInt ∧ (mu u.1 89 118 (ci 0) 89 (1870 + 3 * k + 1)).toInt ≤ 999) ∧ 0 ≤ (mu u.1 89 118 (ci 0) 89 (1870 + 3 * k + 2)).toInt ∧ (mu u.1 89 118 (ci 0) 89 (1870 + 3 * k + 2)).toInt ≤ 999
      rw [e 1049 (by omega)] at hkn
      rw [e (1870 + 3 * k) (by omega), e (1870 + 3 * k + 1) (by omega), e (1870 + 3 * k + 2) (by omega), e 112 (by omega)]
      exact h.1.2 k hk hkn
  rw [V_isGuestR eN hn, b1_some]
  refine pk_li (fun _ => pk_some (show CRs u from h)) (fun c1 => ?_)
  obtain ⟨g, hg, ex⟩ := ig_cn (by omega) c1
  rw [F_isIn, b1_some]
  refine pk_li (fun _ => pk_some (show CRs u from h)) (fun c2 => ?_)
  rw [F_isIn, b1_some]
  refine pk_li (fun _ => pk_some (show CRs u from h)) (fun c3 => ?_)
  rw [F_isIn, b1_some]
  refine pk_li (fun _ => pk_some (show CRs u from h)) (fun c5 => ?_)
  refine pk_li (fun _ => pk_some (show CRs u from h)) (fun c4 => ?_)
  dsimp only
  rw [eM] at c4 ⊢
  have m8 : m < 8 := by
    refine Nat.lt_of_not_le (fun q => c4 ?_)
    rw [show m = 8 by omega]
    decide
  rw [show ci 4 * cn m = cn (4 * m) from cn_mul (a := 4) (by omega) (by omega) (by omega), show c16 203 + cn (4 * m) = cn (203 + 4 * m) by rw [show c16 203 = cn 203 by decide]; exact cn_add (by omega), show cn (203 + 4 * m) + ci 0 = cn (203 + 4 * m) from Int32.add_zero _, show cn (203 + 4 * m) + ci 1 = cn (203 + 4 * m + 1) from cn_add (b := 1) (by omega), show cn (203 + 4 * m) + ci 2 = cn (203 + 4 * m + 2) from cn_add (b := 2) (by omega), show cn (203 + 4 * m) + ci 3 = cn (203 + 4 * m + 3) from cn_add (b := 3) (by omega), cn_nat (n := 203 + 4 * m) (by omega), cn_nat (n := 203 + 4 * m + 1) (by omega), cn_nat (n := 203 + 4 * m + 2) (by omega), cn_nat (n := 203 + 4 * m + 3) (by omega)]
  refine pk_nn (pk_nn (pk_nn (pk_nn (pk_some ?_))))
  have z : ∀ j, j ≠ 203 + 4 * m → j ≠ 203 + 4 * m + 1 → j ≠ 203 + 4 * m + 2 → j ≠ 203 + 4 * m + 3 → mu (mu (mu (mu u.1 89 (203 + 4 * m) a1) 89 (203 + 4 * m + 1) a2) 89 (203 + 4 * m + 2) a3) 89 (203 + 4 * m + 3) a4 89 j = u.1 89 j := fun j h1 h2 h3 h4 => by
    rw [mu_cell (Or.inr h4), mu_cell (Or.inr h3), mu_cell (Or.inr h2), mu_cell (Or.inr h1)]
  have z0 : mu (mu (mu (mu u.1 89 (203 + 4 * m) a1) 89 (203 + 4 * m + 1) a2) 89 (203 + 4 * m + 2) a3) 89 (203 + 4 * m + 3) a4 89 (203 + 4 * m) = a1 := by
    rw [mu_cell (Or.inr (by omega)), mu_cell (Or.inr (by omega)), mu_cell (Or.inr (by omega)), mu_same]
  have zr : ∀ j, j ≠ 89 → mu (mu (mu (mu u.1 89 (203 + 4 * m) a1) 89 (203 + 4 * m + 1) a2) 89 (203 + 4 * m + 2) a3) 89 (203 + 4 * m + 3) a4 j = u.1 j := fun j hj => by
    rw [mu_row hj, mu_row hj, mu_row hj, mu_row hj]
  show CRs (mu (mu (mu (mu (mu u.1 89 (203 + 4 * m) a1) 89 (203 + 4 * m + 1) a2) 89 (203 + 4 * m + 2) a3) 89 (203 + 4 * m + 3) a4) 89 118 (mu (mu (mu (mu u.1 89 (203 + 4 * m) a1) 89 (203 + 4 * m + 1) a2) 89 (203 + 4 * m + 2) a3) 89 (203 + 4 * m + 3) a4 89 118 + ci 1), u.2)
  generalize mu (mu (mu (mu u.1 89 (203 + 4 * m) a1) 89 (203 + 4 * m + 1) a2) 89 (203 + 4 * m + 2) a3) 89 (203 + 4 * m + 3) a4 = D at z z0 zr ⊢
  have y : ∀ j, j ≠ 118 → mu D 89 118 (D 89 118 + ci 1) 89 j = D 89 j := fun j hj => mu_cell (Or.inr hj)
  have y1 : mu D 89 118 (D 89 118 + ci 1) 89 118 = cn (m + 1) := by
    rw [mu_same, z 118 (by omega) (by omega) (by omega) (by omega), eM]
    exact cnu (by omega)
  have yr : ∀ j, j ≠ 89 → mu D 89 118 (D 89 118 + ci 1) j = u.1 j := fun j hj => (mu_row hj).trans (zr j hj)
  generalize mu D 89 118 (D 89 118 + ci 1) = E at y y1 yr ⊢
  have x : ∀ j, j ≠ 118 → j ≠ 203 + 4 * m → j ≠ 203 + 4 * m + 1 → j ≠ 203 + 4 * m + 2 → j ≠ 203 + 4 * m + 3 → E 89 j = u.1 89 j := fun j h0 h1 h2 h3 h4 => (y j h0).trans (z j h1 h2 h3 h4)
  obtain ⟨⟨h1, h2⟩, h3⟩ := h
  refine ⟨⟨fun k hk hkn => ?_, fun k hk hkn => ?_⟩, ?_⟩
  · have hkn : (k : Int) < (E 89 118).toInt := hkn
    show 0 ≤ (E 89 (203 + 4 * k)).toInt ∧ (E 89 (203 + 4 * k)).toInt < (E 89 112).toInt
    rw [y1, t_cn (by omega)] at hkn
    rw [x 112 (by omega) (by omega) (by omega) (by omega) (by omega)]
    by_cases e : k = m
    · rw [e, y _ (by omega), z0, ex, eN, t_cn (by omega), t_cn (by omega)]
      exact ⟨by omega, by omega⟩
    · rw [x (203 + 4 * k) (by omega) (by omega) (by omega) (by omega) (by omega)]
      exact h1 k hk (by rw [eM, t_cn (by omega)]; omega)
  · have hkn : (k : Int) < (E 89 1049).toInt := hkn
    show (0 ≤ (E 89 (1870 + 3 * k)).toInt ∧ (E 89 (1870 + 3 * k)).toInt < (E 89 112).toInt) ∧ (0 ≤ (E 89 (1870 + 3 * k + 1)).toInt ∧ (E 89 (1870 + 3 * k + 1)).toInt ≤ 999) ∧ 0 ≤ (E 89 (1870 + 3 * k + 2)).toInt ∧ (E 89 (1870 + 3 * k + 2)).toInt ≤ 999
    rw [x 1049 (by omega) (by omega) (by omega) (by omega) (by omega)] at hkn
    rw [x 112 (by omega) (by omega) (by omega) (by omega) (by omega), x (1870 + 3 * k) (by omega) (by omega) (by omega) (by omega) (by omega), x (1870 + 3 * k + 1) (by omega) (by omega) (by omega) (by omega) (by omega), x (1870 + 3 * k + 2) (by omega) (by omega) (by omega) (by omega) (by omega)]
    exact h2 k hk hkn
  · show E 88 4 ≠ 0 → CRw (E 90)
    rw [yr 88 (by decide), yr 90 (by decide)]
    exact h3
theorem CR_image {a1 : Int32} {u : mG} (h : CRs u) : pk (F_X12_image a1 u) (fun τ => CRs τ.2) := by
  unfold F_X12_image
  have tk : ¬ a1 = 0 → pk (F_X12_image_13 a1 u) (fun τ => CRs τ.2) := fun ha τ hτ => by
    obtain ⟨_, _, q3, q4⟩ := V_X12_take ha τ hτ
    exact ⟨by rw [q3]; exact h.1, fun _ => CRw_SK h.1 (fun j hj => q4 j (SK_lt hj))⟩
  refine pk_li (fun ha => ?_) tk
  rw [show a1 = ci 0 from ha.trans (by decide)]
  refine pk_li (fun _ => pk_some (show CRs u from h)) (fun h4 τ hτ => ?_)
  obtain ⟨_, _, q3, q4⟩ := V_X12_give τ hτ
  have hb := h.2 h4
  exact ⟨CRw_SK hb (fun j hj => q4 j (SK_lt hj)), fun _ => by rw [q3]; exact hb⟩
/-! what stands between calls, with these -/
def JSx (s : mG) : Prop := JS s ∧ CRs s
theorem CRs_s0 : CRs s0 := by
  have c : ∀ k ∈ ([2, 112, 115, 116, 117, 118, 1049] : List Nat), s0.1 89 k = 0 := s0_cnts
  refine ⟨⟨fun k hk hkn => absurd hkn ?_, fun k hk hkn => absurd hkn ?_⟩, fun q => absurd s0_sim1.2.1 q⟩
  · rw [c 118 (by decide), t_zero]; omega
  · rw [c 1049 (by decide), t_zero]; omega
theorem P4x_of {α β : Type} {F : mG → Option (α × mG)} {G : mG → Option (β × mG)} {E : α × mG → β × mG → Prop} {s : mG} (h : JSx s) (hP : ok (F s) (fun τ => ok (G τ.2) (fun υ => JS υ.2 ∧ E τ υ))) (hC : ok (F s) (fun τ => IM τ.2 ∧ ∀ j, 88 ≤ j → τ.2.1 j = s.1 j)) (hM : ∀ u, IM u → CRs u → pk (G u) (fun υ => CRs υ.2)) : ok (F s) (fun τ => ok (G τ.2) (fun υ => JSx υ.2 ∧ E τ υ)) := by
  obtain ⟨τ, e1, υ, e2, q1, q2⟩ := hP
  obtain ⟨c1, c2⟩ := ok_pk hC τ e1
  exact ⟨τ, e1, υ, e2, ⟨q1, hM τ.2 c1 (CRs_rows h.2 c2) υ e2⟩, q2⟩
theorem P5x_of {F G : mG → Option (Int32 × mG)} {s : mG} (h : JSx s) (hC : ok (F s) (fun τ => JSx τ.2 ∧ ∀ j, 88 ≤ j → τ.2.1 j = s.1 j)) (hM : ∀ u, JSx u → ok (G u) (fun υ => JSx υ.2)) (hR : ∀ u, IM u → CRs u → SIM s u → rel (F s) (G u) (fun τ υ => τ.1 = υ.1)) : ok (F s) (fun τ => ok (G τ.2) (fun υ => JSx υ.2 ∧ τ.1 = υ.1)) := by
  obtain ⟨τ, e1, k1, k2⟩ := hC
  obtain ⟨υ, e2, m1⟩ := hM τ.2 k1
  exact ⟨τ, e1, υ, e2, m1, hR τ.2 k1.1.1.2.1 k1.2 (SIM_C h.1.2 (fun _ _ => rfl) k2) τ e1 υ e2⟩
end
