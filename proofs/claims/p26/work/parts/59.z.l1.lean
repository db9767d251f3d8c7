noncomputable section
/-! THE CLASS'S PAST, ITS IMAGE, ITS GUESTS, ROOMS AND CALLERS: how many there are -/
def TS (t W M : Nat) (s : mG) : Prop := s.1 t 0 = cn M ∧ s.1 t 1 = cn W ∧ ∃ n, n ≤ M ∧ s.1 t 3 = cn n
def PS (s : mG) : Prop := ∃ c t : Nat, c ≤ 6 ∧ t < 6 ∧ s.1 35 1 = cn c ∧ s.1 35 2 = cn t ∧ ∀ i, i < 6 → (t + 5 - i) % 6 < c → s.1 (37 + 3 * i + 1) 3 = s.1 2 3
def C1 (s : mG) : Prop := (TS 2 11 12 s ∧ TS 14 4 8 s ∧ TS 16 3 8 s) ∧ (TS 19 11 12 s ∧ TS 31 4 8 s ∧ TS 33 3 8 s) ∧ (∀ i, i < 6 → TS (37 + 3 * i + 1) 11 12 s) ∧ PS s
theorem TS_row {t W M : Nat} {s s' : mG} (h : TS t W M s) (e : s'.1 t = s.1 t) : TS t W M s' := by
  unfold TS; rw [e]; exact h
theorem TS_cells {t W M : Nat} {s s' : mG} (h : TS t W M s) (e : ∀ j, j ≠ 3 → s'.1 t j = s.1 t j) {n : Nat} (hn : n ≤ M) (e3 : s'.1 t 3 = cn n) : TS t W M s' :=
  ⟨(e 0 (by decide)).trans h.1, (e 1 (by decide)).trans h.2.1, n, hn, e3⟩
theorem C1_same {s s' : mG} (h : C1 s) (e2 : s'.1 2 = s.1 2) (e14 : s'.1 14 = s.1 14) (e16 : s'.1 16 = s.1 16) (ek : ∀ j, 19 ≤ j → j ≤ 33 → s'.1 j = s.1 j) (em : ∀ j, 35 ≤ j → j ≤ 54 → s'.1 j = s.1 j) : C1 s' := by
  obtain ⟨⟨a1, a2, a3⟩, ⟨b1, b2, b3⟩, c, ⟨n, t, hn, ht, p1, p2, p3⟩⟩ := h
  refine ⟨⟨TS_row a1 e2, TS_row a2 e14, TS_row a3 e16⟩, ⟨TS_row b1 (ek _ (by omega) (by omega)), TS_row b2 (ek _ (by omega) (by omega)), TS_row b3 (ek _ (by omega) (by omega))⟩, fun i hi => TS_row (c i hi) (em _ (by omega) (by omega)), n, t, hn, ht, ?_, ?_, fun i hi hl => ?_⟩
  · rw [em 35 (by omega) (by omega)]; exact p1
  · rw [em 35 (by omega) (by omega)]; exact p2
  · rw [em _ (by omega) (by omega), e2]; exact p3 i hi hl
/-- all is forgotten -/
theorem C1_forget {s s' : mG} (h : C1 s) (e2 : TS 2 11 12 s') (e14 : s'.1 14 = s.1 14) (e16 : s'.1 16 = s.1 16) (ek : ∀ j, 19 ≤ j → j ≤ 33 → s'.1 j = s.1 j) (em : ∀ j, 36 ≤ j → j ≤ 54 → s'.1 j = s.1 j) (e0 : s'.1 35 1 = ci 0) (et : s'.1 35 2 = s.1 35 2) : C1 s' := by
  obtain ⟨⟨_, a2, a3⟩, ⟨b1, b2, b3⟩, c, ⟨n, t, hn, ht, p1, p2, p3⟩⟩ := h
  exact ⟨⟨e2, TS_row a2 e14, TS_row a3 e16⟩, ⟨TS_row b1 (ek _ (by omega) (by omega)), TS_row b2 (ek _ (by omega) (by omega)), TS_row b3 (ek _ (by omega) (by omega))⟩, fun i hi => TS_row (c i hi) (em _ (by omega) (by omega)), 0, t, by omega, ht, e0.trans rfl, et.trans p2, fun i hi hl => absurd hl (by omega)⟩
theorem V_moment {s : mG} {a1 : Int32} {i : Nat} (h : a1 = cn i) (hi : i < 6) : F_X5_momentAt s a1 = some (some (37 + 3 * i)) := by
  subst h
  unfold F_X5_momentAt
  rw [if_neg (cn_nn (by omega)), if_neg (fun h => absurd ((cn_le (by omega) (by omega)).mp h) (by omega)), if_neg (cn_ix hi (by omega)), cn_nat (by omega)]
theorem al_mo : ∀ i, i < 6 → m_alen (37 + 3 * i + 1 + 1) = 132 := by decide +kernel
theorem al_3 : m_alen (2 + 1) = 132 := by decide +kernel
theorem rm_up : ∀ t, t < 6 → rm (cn t + ci 1) (c8 6) = cn ((t + 1) % 6) := by decide +kernel
theorem rm_dn : ∀ t, t < 6 → rm ((cn t + c8 6) - ci 1) (c8 6) = cn ((t + 5) % 6) := by decide +kernel
theorem im_up : ∀ c, c < 7 → imin (cn c + ci 1) (c8 6) = cn (if c < 6 then c + 1 else 6) := by decide +kernel
theorem cnd : ∀ c, c < 7 → c ≠ 0 → cn c - ci 1 = cn (c - 1) := by decide +kernel
/-- a moment takes the house -/
def TKo (t n : Nat) (s u : mG) : Prop := u.2 = s.2 ∧ (∀ i, (i < 37 + 3 * t ∨ 37 + 3 * t + 2 < i) → u.1 i = s.1 i) ∧ (∀ j, j ≠ 3 → u.1 (37 + 3 * t + 1) j = s.1 (37 + 3 * t + 1) j) ∧ u.1 (37 + 3 * t + 1) 3 = s.1 2 3 ∧ (∀ j, j < n * 11 → u.1 (37 + 3 * t + 1 + 1) j = s.1 3 j) ∧ u.1 (37 + 3 * t) 1 = s.1 4 3 ∧ u.1 (37 + 3 * t) 2 = s.1 1 10 ∧ u.1 (37 + 3 * t) 3 = s.1 1 11
theorem V_take {s : mG} {t n : Nat} (ht : t < 6) (hm : TS (37 + 3 * t + 1) 11 12 s) (h3 : s.1 2 3 = cn n) (hn : n ≤ 12) : pk (F_X4_takeFrom (37 + 3 * t) 1 s) (TKo t n s) := by
  unfold F_X4_takeFrom
  refine pk_b1 (V_copy (t := 37 + 3 * t + 1) (a := 1 + 1) (W := 11) (by omega) hm.1 h3 hm.2.1 hn (by decide) (by rw [al_mo t ht]; omega) (by rw [show 1 + 1 + 1 = 2 + 1 by rfl, al_3]; omega) (by decide)) (fun u hu => ?_)
  obtain ⟨c1, c2, c3, c4, c5, c6⟩ := hu
  dsimp only
  refine pk_some ⟨c1, fun i hi => ?_, fun j hj => ?_, ?_, fun j hj => ?_, ?_, ?_, ?_⟩
  all_goals dsimp only
  · rw [mu_row (by omega), mu_row (by omega), mu_row (by omega)]; exact c2 i (by omega) (by omega)
  · rw [mu_row (by omega), mu_row (by omega), mu_row (by omega)]; exact c3 j hj
  · rw [mu_row (by omega), mu_row (by omega), mu_row (by omega)]; exact c4
  · rw [mu_row (by omega), mu_row (by omega), mu_row (by omega)]; exact c5 j hj
  · rw [mu_cell (by omega), mu_cell (by omega), mu_same]; exact congrFun (c2 4 (by omega) (by omega)) 3
  · rw [mu_cell (by omega), mu_same, mu_row (by omega)]; exact congrFun (c2 1 (by omega) (by omega)) 10
  · rw [mu_same, mu_row (by omega), mu_row (by omega)]; exact congrFun (c2 1 (by omega) (by omega)) 11
/-- the past keeps a moment -/
def KEo (t c n : Nat) (s u : mG) : Prop := u.2 = s.2 ∧ (∀ i, i ≠ 35 → (i < 37 + 3 * t ∨ 37 + 3 * t + 2 < i) → u.1 i = s.1 i) ∧ (∀ j, j ≠ 3 → u.1 (37 + 3 * t + 1) j = s.1 (37 + 3 * t + 1) j) ∧ u.1 (37 + 3 * t + 1) 3 = s.1 2 3 ∧ (∀ j, j < n * 11 → u.1 (37 + 3 * t + 1 + 1) j = s.1 3 j) ∧ u.1 (37 + 3 * t) 1 = s.1 4 3 ∧ u.1 (37 + 3 * t) 2 = s.1 1 10 ∧ u.1 (37 + 3 * t) 3 = s.1 1 11 ∧ u.1 35 1 = cn (if c < 6 then c + 1 else 6) ∧ u.1 35 2 = cn ((t + 1) % 6)
theorem V_keep {s : mG} {t c n : Nat} (ht : t < 6) (hc : c ≤ 6) (e1 : s.1 35 1 = cn c) (e2 : s.1 35 2 = cn t) (hm : TS (37 + 3 * t + 1) 11 12 s) (h3 : s.1 2 3 = cn n) (hn : n ≤ 12) : pk (F_X5_keep 1 s) (KEo t c n s) := by
  unfold F_X5_keep
  rw [V_moment e2 ht, bo_some]
  refine pk_b1 (V_take ht hm h3 hn) (fun u hu => ?_)
  obtain ⟨y1, y2, y3, y4, y5, y6, y7, y8⟩ := hu
  dsimp only
  have r35 : u.1 35 = s.1 35 := y2 35 (by omega)
  have x1 : rm (u.1 35 2 + ci 1) (c8 6) = cn ((t + 1) % 6) := by rw [r35, e2]; exact rm_up t ht
  have x2 : imin (u.1 35 1 + ci 1) (c8 6) = cn (if c < 6 then c + 1 else 6) := by rw [r35, e1]; exact im_up c (by omega)
  refine pk_some ⟨y1, fun i h1 h2 => ?_, fun j hj => ?_, ?_, fun j hj => ?_, ?_, ?_, ?_, ?_, ?_⟩
  all_goals dsimp only
  · rw [mu_row (by omega), mu_row (by omega)]; exact y2 i h2
  · rw [mu_row (by omega), mu_row (by omega)]; exact y3 j hj
  · rw [mu_row (by omega), mu_row (by omega)]; exact y4
  · rw [mu_row (by omega), mu_row (by omega)]; exact y5 j hj
  · rw [mu_row (by omega), mu_row (by omega)]; exact y6
  · rw [mu_row (by omega), mu_row (by omega)]; exact y7
  · rw [mu_row (by omega), mu_row (by omega)]; exact y8
  · rw [mu_same, mu_cell (by omega)]; exact x2
  · rw [mu_cell (by omega), mu_same]; exact x1
theorem C1_keep {s : mG} (h : C1 s) : pk (F_X5_keep 1 s) (fun u => C1 u ∧ u.2 = s.2 ∧ ∀ i, (i < 35 ∨ 54 < i) → u.1 i = s.1 i) := by
  obtain ⟨⟨a1, a2, a3⟩, ⟨b1, b2, b3⟩, cc, ⟨c, t, hc, ht, p1, p2, p3⟩⟩ := h
  obtain ⟨_, _, n, hn, h3⟩ := a1
  refine fun u hu => ?_
  obtain ⟨k1, k2, k3, k4, k5, k6, k7, k8, k9, k10⟩ := V_keep ht hc p1 p2 (cc t ht) h3 hn u hu
  have row : ∀ i, (i < 35 ∨ 54 < i) → u.1 i = s.1 i := fun i hi => k2 i (by omega) (by omega)
  refine ⟨⟨⟨TS_row ⟨‹_›, ‹_›, n, hn, h3⟩ (row 2 (by omega)), TS_row a2 (row 14 (by omega)), TS_row a3 (row 16 (by omega))⟩, ⟨TS_row b1 (row 19 (by omega)), TS_row b2 (row 31 (by omega)), TS_row b3 (row 33 (by omega))⟩, fun i hi => ?_, if c < 6 then c + 1 else 6, (t + 1) % 6, by split <;> omega, by omega, k9, k10, fun i hi hl => ?_⟩, k1, row⟩
  · by_cases hit : i = t
    · subst hit; exact TS_cells (cc i hi) k3 hn (k4.trans h3)
    · exact TS_row (cc i hi) (k2 _ (by omega) (by omega))
  · rw [row 2 (by omega)]
    by_cases hit : i = t
    · subst hit; exact k4
    · rw [k2 _ (by omega) (by omega)]
      refine p3 i hi ?_
      by_cases hc6 : c < 6
      · rw [if_pos hc6] at hl; omega
      · omega
/-- the last moment is given back -/
theorem C1_giveBack {s : mG} (h : C1 s) : pk (F_X5_giveBack 1 s) (fun τ => C1 τ.2 ∧ (∀ j, τ.2.1 2 j = s.1 2 j) ∧ ∀ i, 4 < i → i ≠ 35 → τ.2.1 i = s.1 i) := by
  have h0 := h
  obtain ⟨⟨a1, a2, a3⟩, ⟨b1, b2, b3⟩, cc, ⟨c, t, hc, ht, p1, p2, p3⟩⟩ := h
  obtain ⟨w0, w1, n, hn, h3⟩ := a1
  unfold F_X5_giveBack F_X5_giveBack_30
  dsimp only
  rw [p2, rm_dn t ht, V_moment rfl (Nat.mod_lt _ (by decide)), bo_some]
  have hl : (t + 5) % 6 < 6 := Nat.mod_lt _ (by decide)
  by_cases hz : s.1 35 1 = 0
  · rw [if_pos hz]; exact pk_some ⟨h0, fun _ => rfl, fun _ _ _ => rfl⟩
  rw [if_neg hz]
  have hc0 : c ≠ 0 := fun e => hz (by rw [p1, e]; rfl)
  have hlv : (t + 5 - (t + 5) % 6) % 6 < c := by omega
  have hrow := p3 _ hl hlv
  have hlt : (t + 5) % 6 = if t = 0 then 5 else t - 1 := by split <;> omega
  generalize (t + 5) % 6 = l at *
  unfold F_X4_giveTo
  have hcp := V_copy (t := 1 + 1) (a := 37 + 3 * l + 1) (s := s) (n := n) (m := 12) (W := 11) (by omega) w0 (hrow.trans h3) w1 hn (by decide) (by rw [show 1 + 1 + 1 = 2 + 1 by rfl, al_3]; omega) (by rw [al_mo l hl]; omega) (by decide)
  refine pk_b1 (P := fun u => ∃ u0, CPo (1 + 1) (37 + 3 * l + 1) (n * 11) s u0 ∧ ∃ x y z, u = (mu (mu (mu u0.1 4 3 x) 1 10 y) 1 11 z, u0.2)) ?_ (fun u hu => ?_)
  · exact pk_b1 hcp (fun u hu => pk_some ⟨u, hu, _, _, _, rfl⟩)
  obtain ⟨u0, ⟨c1, c2, c3, c4, c5, c6⟩, x, y, z, rfl⟩ := hu
  have row : ∀ i, 4 < i → u0.1 i = s.1 i := fun i hi => c2 i (by omega) (by omega)
  have r35 : u0.1 35 = s.1 35 := row 35 (by omega)
  dsimp only
  have x1 : mu (mu (mu (mu u0.1 4 3 x) 1 10 y) 1 11 z) 35 2 (cn l) 35 1 - ci 1 = cn (c - 1) := by
    rw [mu_cell (by omega), mu_row (by omega), mu_row (by omega), mu_row (by omega), r35, p1]
    exact cnd c (by omega) hc0
  rw [x1]
  have row2 : ∀ i, 4 < i → i ≠ 35 → mu (mu (mu (mu (mu u0.1 4 3 x) 1 10 y) 1 11 z) 35 2 (cn l)) 35 1 (cn (c - 1)) i = s.1 i := fun i h1 h2 => by
    rw [mu_row h2, mu_row h2, mu_row (by omega), mu_row (by omega), mu_row (by omega)]; exact row i h1
  have row3 : mu (mu (mu (mu (mu u0.1 4 3 x) 1 10 y) 1 11 z) 35 2 (cn l)) 35 1 (cn (c - 1)) 2 = u0.1 2 := by
    rw [mu_row (by omega), mu_row (by omega), mu_row (by omega), mu_row (by omega), mu_row (by omega)]
  have e2 : ∀ j, mu (mu (mu (mu (mu u0.1 4 3 x) 1 10 y) 1 11 z) 35 2 (cn l)) 35 1 (cn (c - 1)) 2 j = s.1 2 j := fun j => by
    rw [row3]
    by_cases hj : j = 3
    · subst hj; exact c4.trans hrow
    · exact c3 j hj
  have e351 : mu (mu (mu (mu (mu u0.1 4 3 x) 1 10 y) 1 11 z) 35 2 (cn l)) 35 1 (cn (c - 1)) 35 1 = cn (c - 1) := mu_same
  have e352 : mu (mu (mu (mu (mu u0.1 4 3 x) 1 10 y) 1 11 z) 35 2 (cn l)) 35 1 (cn (c - 1)) 35 2 = cn l := (mu_cell (by omega)).trans mu_same
  generalize mu (mu (mu (mu (mu u0.1 4 3 x) 1 10 y) 1 11 z) 35 2 (cn l)) 35 1 (cn (c - 1)) = D at *
  refine pk_some ⟨⟨⟨⟨(e2 0).trans w0, (e2 1).trans w1, n, hn, (e2 3).trans h3⟩, TS_row a2 (row2 14 (by omega) (by omega)), TS_row a3 (row2 16 (by omega) (by omega))⟩, ⟨TS_row b1 (row2 19 (by omega) (by omega)), TS_row b2 (row2 31 (by omega) (by omega)), TS_row b3 (row2 33 (by omega) (by omega))⟩, fun i hi => TS_row (cc i hi) (row2 _ (by omega) (by omega)), c - 1, l, by omega, hl, e351, e352, fun i hi hv => ?_⟩, e2, row2⟩
  show D _ 3 = D 2 3
  rw [e2 3, row2 _ (by omega) (by omega)]
  refine p3 i hi ?_
  split at hlt <;> omega
/-! the image -/
theorem V_copyF {t a : Nat} {s : mG} : pk (F_X10_copyFrom t a s) (fun s' => ∀ i, i ≠ t → i ≠ t + 1 → s'.1 i = s.1 i) := by
  unfold F_X10_copyFrom
  extract_lets s1 v2
  have qr : ∀ i, i ≠ t → i ≠ t + 1 → s1.1 i = s.1 i := fun i hi _ => mu_row hi
  clear_value v2 s1
  unfold F_X10_copyFrom_L27
  refine pk_whl (fun v => ∀ i, i ≠ t → i ≠ t + 1 → v.2.2.1 i = s.1 i) qr (fun v hv => ?_)
  obtain ⟨x2, x3, u⟩ := v
  have hv : ∀ i, i ≠ t → i ≠ t + 1 → u.1 i = s.1 i := hv
  unfold F_X10_copyFrom_B27
  refine pk_ite (pk_some hv) (pk_ite (pk_some hv) (pk_ite (pk_some hv) (pk_nn (pk_nn ?_))))
  exact pk_some (show ∀ i, i ≠ t → i ≠ t + 1 → (mu u.1 (t + 1) _ _, u.2).1 i = s.1 i from fun i h1 h2 => (mu_row h2).trans (hv i h1 h2))
/-- guests, rooms and callers of a house copied -/
def HPo (h a nr : Nat) (s u : mG) : Prop := (∀ i, (i < h ∨ h + 16 < i) → u.1 i = s.1 i) ∧ (∀ j, j ≠ 3 → u.1 (h + 1) j = s.1 (h + 1) j) ∧ u.1 (h + 1) 3 = s.1 (a + 1) 3 ∧ (∀ j, j ≠ 3 → u.1 (h + 13) j = s.1 (h + 13) j) ∧ u.1 (h + 13) 3 = s.1 (a + 13) 3 ∧ (∀ j, j ≠ 3 → u.1 (h + 15) j = s.1 (h + 15) j) ∧ u.1 (h + 15) 3 = s.1 (a + 15) 3 ∧ ∀ j, j < nr * 4 → u.1 (h + 14) j = s.1 (a + 14) j
theorem V_house {h a : Nat} {s : mG} {ng nr nc : Nat} (hd : h + 17 ≤ a ∨ a + 17 ≤ h) (lg : m_alen (h + 1 + 1) = 132 ∧ m_alen (a + 1 + 1) = 132) (lr : m_alen (h + 13 + 1) = 32 ∧ m_alen (a + 13 + 1) = 32) (lc : m_alen (h + 15 + 1) = 24 ∧ m_alen (a + 15 + 1) = 24)
    (tg : TS (h + 1) 11 12 s) (tr : TS (h + 13) 4 8 s) (tc : TS (h + 15) 3 8 s) (eg : s.1 (a + 1) 3 = cn ng) (er : s.1 (a + 13) 3 = cn nr) (ec : s.1 (a + 15) 3 = cn nc) (hg : ng ≤ 12) (hr : nr ≤ 8) (hc : nc ≤ 8) : pk (F_X2_copyFrom h a s) (HPo h a nr s) := by
  unfold F_X2_copyFrom
  refine pk_b1 (V_copy (t := h + 1) (a := a + 1) (W := 11) (by omega) tg.1 eg tg.2.1 hg (by decide) (by rw [lg.1]; omega) (by rw [lg.2]; omega) (by decide)) (fun u1 q1 => ?_)
  refine pk_b1 V_copyF (fun u2 q2 => ?_)
  refine pk_b1 V_copyF (fun u3 q3 => ?_)
  refine pk_b1 V_copyF (fun u4 q4 => ?_)
  refine pk_b1 V_copyF (fun u5 q5 => ?_)
  refine pk_b1 V_copyF (fun u6 q6 => ?_)
  obtain ⟨c1, c2, c3, c4, c5, c6⟩ := q1
  have r6 : ∀ i, (i < h + 3 ∨ h + 13 ≤ i) → u6.1 i = u1.1 i := fun i hi => by
    rw [q6 i (by omega) (by omega), q5 i (by omega) (by omega), q4 i (by omega) (by omega), q3 i (by omega) (by omega), q2 i (by omega) (by omega)]
  clear q2 q3 q4 q5 q6
  have e1 : u6.1 (h + 13) = s.1 (h + 13) := (r6 _ (by omega)).trans (c2 _ (by omega) (by omega))
  have e2 : u6.1 (a + 13) = s.1 (a + 13) := (r6 _ (by omega)).trans (c2 _ (by omega) (by omega))
  refine pk_b1 (V_copy (t := h + 13) (a := a + 13) (n := nr) (m := 8) (W := 4) (by omega) (by rw [e1]; exact tr.1) (by rw [e2]; exact er) (by rw [e1]; exact tr.2.1) hr (by decide) (by rw [lr.1]; omega) (by rw [lr.2]; omega) (by decide)) (fun u7 q7 => ?_)
  obtain ⟨d1, d2, d3, d4, d5, d6⟩ := q7
  have e3 : u7.1 (h + 15) = s.1 (h + 15) := (d2 _ (by omega) (by omega)).trans ((r6 _ (by omega)).trans (c2 _ (by omega) (by omega)))
  have e4 : u7.1 (a + 15) = s.1 (a + 15) := (d2 _ (by omega) (by omega)).trans ((r6 _ (by omega)).trans (c2 _ (by omega) (by omega)))
  refine pk_b1 (V_copy (t := h + 15) (a := a + 15) (n := nc) (m := 8) (W := 3) (by omega) (by rw [e3]; exact tc.1) (by rw [e4]; exact ec) (by rw [e3]; exact tc.2.1) hc (by decide) (by rw [lc.1]; omega) (by rw [lc.2]; omega) (by decide)) (fun u8 q8 => ?_)
  obtain ⟨f1, f2, f3, f4, f5, f6⟩ := q8
  have e5 : u6.1 (a + 14) = s.1 (a + 14) := (r6 _ (by omega)).trans (c2 _ (by omega) (by omega))
  have hh : ∀ i, i ≠ h → ∀ x y z w, mu (mu (mu (mu u8.1 h 8 x) h 9 y) h 10 z) h 11 w i = u8.1 i := fun i hi x y z w => by
    rw [mu_row hi, mu_row hi, mu_row hi, mu_row hi]
  dsimp only
  refine pk_some ⟨fun i hi => ?_, fun j hj => ?_, ?_, fun j hj => ?_, ?_, fun j hj => ?_, ?_, fun j hj => ?_⟩
  all_goals dsimp only
  · rw [hh i (by omega), f2 i (by omega) (by omega), d2 i (by omega) (by omega), r6 i (by omega), c2 i (by omega) (by omega)]
  · rw [hh _ (by omega), f2 _ (by omega) (by omega), d2 _ (by omega) (by omega), r6 _ (by omega)]; exact c3 j hj
  · rw [hh _ (by omega), f2 _ (by omega) (by omega), d2 _ (by omega) (by omega), r6 _ (by omega)]; exact c4
  · rw [hh _ (by omega), f2 _ (by omega) (by omega), d3 j hj, e1]
  · rw [hh _ (by omega), f2 _ (by omega) (by omega), d4, e2]
  · rw [hh _ (by omega), f3 j hj, e3]
  · rw [hh _ (by omega), f4, e4]
  · rw [hh _ (by omega), f2 _ (by omega) (by omega)]
    exact (d5 j hj).trans (by rw [e5])
end
