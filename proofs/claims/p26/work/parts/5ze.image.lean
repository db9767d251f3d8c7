noncomputable section
/-! THE IMAGE, on both sides -/
theorem TWr_copy {t a W M cnt n : Nat} {ix : Nat → Nat → Nat} {s u : mG} {w : Nat → Int32} (h : TWr a W M cnt ix s.1 w) (h3 : s.1 a 3 = cn n) (hM : M < 2147483648) (sh : TS t W M s) (c : CPo t a (n * W) s u) : TWr t W M cnt ix u.1 w := by
  obtain ⟨h0, h1, m, hm, g3, gc, hx⟩ := h
  obtain ⟨_, c2, c3, c4, c5, c6⟩ := c
  refine ⟨(c3 0 (by decide)).trans sh.1, (c3 1 (by decide)).trans sh.2.1, m, hm, c4.trans g3, gc, fun r k hr hk => ?_⟩
  have e : n = m ∨ ¬ n < 2147483648 := by
    by_cases q : n < 2147483648
    · exact Or.inl ((cn_inj q (by omega)).mp (h3.symm.trans g3))
    · exact Or.inr q
  have hn : m ≤ n := by
    rcases e with e | e
    · omega
    · omega
  have hrw : r * W + k < n * W := by
    have h4 : (r + 1) * W ≤ n * W := Nat.mul_le_mul_right W (by omega)
    rw [Nat.add_mul, Nat.one_mul] at h4
    omega
  rw [c5 _ hrw]
  exact hx r k hr hk
theorem LWr_copy {t a n : Nat} {s u : mG} {w : Nat → Int32} (h : LWr a s.1 w) (h3 : s.1 a 3 = cn n) (hn : n ≤ 16) (sh : TS t 4 16 s) (c : CPo t a (n * 4) s u) : LWr t u.1 w := by
  obtain ⟨h0, h1, m, hm, g3, gc, hx⟩ := h
  obtain ⟨_, c2, c3, c4, c5, c6⟩ := c
  have e : m = n := (cn_inj (by omega) (by omega)).mp (g3.symm.trans h3)
  subst e
  refine ⟨(c3 0 (by decide)).trans sh.1, (c3 1 (by decide)).trans sh.2.1, m, hm, c4.trans g3, gc, fun r hr => ?_⟩
  rw [c5 (r * 4 + 1) (by omega), c5 (r * 4 + 2) (by omega), c5 (r * 4 + 3) (by omega), c5 (r * 4 + 0) (by omega)]
  exact hx r hr
theorem CWr_copy {t a n : Nat} {s u : mG} {w : Nat → Int32} (h : CWr a s.1 w) (h3 : s.1 a 3 = cn n) (hn : n ≤ 400) (sh : TS t 1 400 s) (c : CPo t a (n * 1) s u) : CWr t u.1 w := by
  obtain ⟨h0, h1, m, hm, g3, hx⟩ := h
  obtain ⟨_, c2, c3, c4, c5, c6⟩ := c
  have e : m = n := (cn_inj (by omega) (by omega)).mp (g3.symm.trans h3)
  subst e
  refine ⟨(c3 0 (by decide)).trans sh.1, (c3 1 (by decide)).trans sh.2.1, m, hm, c4.trans g3, fun j hj => ?_⟩
  rw [c5 j (by omega)]
  exact hx j hj
/-- the shapes of a house's tables -/
def SHh (h : Nat) (s : mG) : Prop := TS (h + 1) 11 12 s ∧ TS (h + 3) 5 150 s ∧ TS (h + 5) 4 16 s ∧ TS (h + 7) 1 400 s ∧ TS (h + 9) 2 6 s ∧ TS (h + 11) 4 12 s ∧ TS (h + 13) 4 8 s ∧ TS (h + 15) 3 8 s
def ALh (h : Nat) : Prop := m_alen (h + 1 + 1) = 132 ∧ m_alen (h + 3 + 1) = 750 ∧ m_alen (h + 5 + 1) = 64 ∧ m_alen (h + 7 + 1) = 400 ∧ m_alen (h + 9 + 1) = 12 ∧ m_alen (h + 11 + 1) = 48 ∧ m_alen (h + 13 + 1) = 32 ∧ m_alen (h + 15 + 1) = 24
theorem ALh_1 : ALh 1 := by unfold ALh; decide +kernel
theorem ALh_18 : ALh 18 := by unfold ALh; decide +kernel
theorem TWr_T {t W M cnt : Nat} {ix : Nat → Nat → Nat} {s : mG} {w : Nat → Int32} (h : TWr t W M cnt ix s.1 w) : TS t W M s := by
  obtain ⟨h0, h1, m, hm, g3, _⟩ := h
  exact ⟨h0, h1, m, hm, g3⟩
theorem HSr_SH {h : Nat} {s : mG} {w : Nat → Int32} (H : HSr h s.1 w) : SHh h s := by
  obtain ⟨t1, t2, ⟨l0, l1, m, hm, l3, _⟩, ⟨c0, c1, m2, hm2, c3, _⟩, t5, t6, t7, t8, _⟩ := H
  exact ⟨TWr_T t1, TWr_T t2, ⟨l0, l1, m, hm, l3⟩, ⟨c0, c1, m2, hm2, c3⟩, TWr_T t5, TWr_T t6, TWr_T t7, TWr_T t8⟩
theorem V_copyS {t a W M n : Nat} {s : mG} (hd : a ≠ t ∧ a + 1 ≠ t ∧ a ≠ t + 1) (sh : TS t W M s) (h3 : s.1 a 3 = cn n) (hn : n ≤ M) (hM : M < 2147483648) (hW : W < 2147483648) (l1 : M * W ≤ m_alen (t + 1)) (l2 : M * W ≤ m_alen (a + 1)) : pk (F_X10_copyFrom t a s) (CPo t a (n * W) s) :=
  V_copy hd sh.1 h3 sh.2.1 hn hM (Nat.le_trans (Nat.mul_le_mul_right W hn) l1) (Nat.le_trans (Nat.mul_le_mul_right W hn) l2) hW
/-- a whole house copied -/
theorem V_houseH {h a : Nat} {s : mG} {w : Nat → Int32} (hd : h + 17 ≤ a ∨ a + 17 ≤ h) (lh : ALh h) (la : ALh a) (H : HSr a s.1 w) (sh : SHh h s) : pk (F_X2_copyFrom h a s) (fun u => HSr h u.1 w ∧ (∀ i, (i < h ∨ h + 16 < i) → u.1 i = s.1 i) ∧ u.1 (h + 1) 3 = s.1 (a + 1) 3 ∧ u.1 (h + 3) 3 = s.1 (a + 3) 3 ∧ u.1 (h + 7) 3 = s.1 (a + 7) 3) := by
  obtain ⟨t1, t2, t3, t4, t5, t6, t7, t8, d1, d2, d3, d4⟩ := H
  obtain ⟨s1, s2, s3, s4, s5, s6, s7, s8⟩ := sh
  obtain ⟨k1, k2, k3, k4, k5, k6, k7, k8⟩ := lh
  obtain ⟨j1, j2, j3, j4, j5, j6, j7, j8⟩ := la
  obtain ⟨_, _, n1, hn1, f1, _⟩ := id t1
  obtain ⟨_, _, n2, hn2, f2, _⟩ := id t2
  obtain ⟨_, _, n3, hn3, f3, _⟩ := id t3
  obtain ⟨_, _, n4, hn4, f4, _⟩ := id t4
  obtain ⟨_, _, n5, hn5, f5, _⟩ := id t5
  obtain ⟨_, _, n6, hn6, f6, _⟩ := id t6
  obtain ⟨_, _, n7, hn7, f7, _⟩ := id t7
  obtain ⟨_, _, n8, hn8, f8, _⟩ := id t8
  unfold F_X2_copyFrom
  refine pk_b1 (V_copyS (n := n1) (by omega) s1 f1 hn1 (by decide) (by decide) (by rw [k1]; decide) (by rw [j1]; decide)) (fun u1 q1 => ?_)
  have r1 : ∀ i, i ≠ h + 1 → i ≠ h + 2 → u1.1 i = s.1 i := fun i x y => q1.2.1 i x (by omega)
  have T1 := TWr_copy t1 f1 (by decide) s1 q1
  refine pk_b1 (V_copyS (n := n2) (by omega) (TS_row s2 (r1 _ (by omega) (by omega))) (by rw [r1 _ (by omega) (by omega)]; exact f2) hn2 (by decide) (by decide) (by rw [k2]; decide) (by rw [j2]; decide)) (fun u2 q2 => ?_)
  have r2 : ∀ i, i ≠ h + 1 → i ≠ h + 2 → i ≠ h + 3 → i ≠ h + 4 → u2.1 i = s.1 i := fun i a1 a2 a3 a4 => (q2.2.1 i a3 (by omega)).trans (r1 i a1 a2)
  have T2 := TWr_copy (TWr_same t2 (r1 _ (by omega) (by omega)) (r1 _ (by omega) (by omega)) rfl (fun _ _ _ _ => rfl)) (by rw [r1 _ (by omega) (by omega)]; exact f2) (by decide) (TS_row s2 (r1 _ (by omega) (by omega))) q2
  refine pk_b1 (V_copyS (n := n3) (by omega) (TS_row s3 (r2 _ (by omega) (by omega) (by omega) (by omega))) (by rw [r2 _ (by omega) (by omega) (by omega) (by omega)]; exact f3) hn3 (by decide) (by decide) (by rw [k3]; decide) (by rw [j3]; decide)) (fun u3 q3 => ?_)
  have r3 : ∀ i, (i < h + 1 ∨ h + 6 < i) → u3.1 i = s.1 i := fun i hi => (q3.2.1 i (by omega) (by omega)).trans (r2 i (by omega) (by omega) (by omega) (by omega))
  have T3 := LWr_copy (LWr_same t3 (r2 _ (by omega) (by omega) (by omega) (by omega)) (r2 _ (by omega) (by omega) (by omega) (by omega)) (fun _ _ => rfl)) (by rw [r2 _ (by omega) (by omega) (by omega) (by omega)]; exact f3) hn3 (TS_row s3 (r2 _ (by omega) (by omega) (by omega) (by omega))) q3
  refine pk_b1 (V_copyS (n := n4) (by omega) (TS_row s4 (r3 _ (by omega))) (by rw [r3 _ (by omega)]; exact f4) hn4 (by decide) (by decide) (by rw [k4]; decide) (by rw [j4]; decide)) (fun u4 q4 => ?_)
  have r4 : ∀ i, (i < h + 1 ∨ h + 8 < i) → u4.1 i = s.1 i := fun i hi => (q4.2.1 i (by omega) (by omega)).trans (r3 i (by omega))
  have T4 := CWr_copy (CWr_same t4 (r3 _ (by omega)) (r3 _ (by omega)) (fun _ _ _ => rfl)) (by rw [r3 _ (by omega)]; exact f4) hn4 (TS_row s4 (r3 _ (by omega))) q4
  refine pk_b1 (V_copyS (n := n5) (by omega) (TS_row s5 (r4 _ (by omega))) (by rw [r4 _ (by omega)]; exact f5) hn5 (by decide) (by decide) (by rw [k5]; decide) (by rw [j5]; decide)) (fun u5 q5 => ?_)
  have r5 : ∀ i, (i < h + 1 ∨ h + 10 < i) → u5.1 i = s.1 i := fun i hi => (q5.2.1 i (by omega) (by omega)).trans (r4 i (by omega))
  have T5 := TWr_copy (TWr_same t5 (r4 _ (by omega)) (r4 _ (by omega)) rfl (fun _ _ _ _ => rfl)) (by rw [r4 _ (by omega)]; exact f5) (by decide) (TS_row s5 (r4 _ (by omega))) q5
  refine pk_b1 (V_copyS (n := n6) (by omega) (TS_row s6 (r5 _ (by omega))) (by rw [r5 _ (by omega)]; exact f6) hn6 (by decide) (by decide) (by rw [k6]; decide) (by rw [j6]; decide)) (fun u6 q6 => ?_)
  have r6 : ∀ i, (i < h + 1 ∨ h + 12 < i) → u6.1 i = s.1 i := fun i hi => (q6.2.1 i (by omega) (by omega)).trans (r5 i (by omega))
  have T6 := TWr_copy (TWr_same t6 (r5 _ (by omega)) (r5 _ (by omega)) rfl (fun _ _ _ _ => rfl)) (by rw [r5 _ (by omega)]; exact f6) (by decide) (TS_row s6 (r5 _ (by omega))) q6
  refine pk_b1 (V_copyS (n := n7) (by omega) (TS_row s7 (r6 _ (by omega))) (by rw [r6 _ (by omega)]; exact f7) hn7 (by decide) (by decide) (by rw [k7]; decide) (by rw [j7]; decide)) (fun u7 q7 => ?_)
  have r7 : ∀ i, (i < h + 1 ∨ h + 14 < i) → u7.1 i = s.1 i := fun i hi => (q7.2.1 i (by omega) (by omega)).trans (r6 i (by omega))
  have T7 := TWr_copy (TWr_same t7 (r6 _ (by omega)) (r6 _ (by omega)) rfl (fun _ _ _ _ => rfl)) (by rw [r6 _ (by omega)]; exact f7) (by decide) (TS_row s7 (r6 _ (by omega))) q7
  refine pk_b1 (V_copyS (n := n8) (by omega) (TS_row s8 (r7 _ (by omega))) (by rw [r7 _ (by omega)]; exact f8) hn8 (by decide) (by decide) (by rw [k8]; decide) (by rw [j8]; decide)) (fun u8 q8 => ?_)
  have r8 : ∀ i, (i < h + 1 ∨ h + 16 < i) → u8.1 i = s.1 i := fun i hi => (q8.2.1 i (by omega) (by omega)).trans (r7 i (by omega))
  have T8 := TWr_copy (TWr_same t8 (r7 _ (by omega)) (r7 _ (by omega)) rfl (fun _ _ _ _ => rfl)) (by rw [r7 _ (by omega)]; exact f8) (by decide) (TS_row s8 (r7 _ (by omega))) q8
  -- what each of the later ones leaves
  have l7 : ∀ i, i < h + 15 → u8.1 i = u7.1 i := fun i hi => q8.2.1 i (by omega) (by omega)
  have l6 : ∀ i, i < h + 13 → u8.1 i = u6.1 i := fun i hi => (l7 i (by omega)).trans (q7.2.1 i (by omega) (by omega))
  have l5 : ∀ i, i < h + 11 → u8.1 i = u5.1 i := fun i hi => (l6 i (by omega)).trans (q6.2.1 i (by omega) (by omega))
  have l4 : ∀ i, i < h + 9 → u8.1 i = u4.1 i := fun i hi => (l5 i (by omega)).trans (q5.2.1 i (by omega) (by omega))
  have l3 : ∀ i, i < h + 7 → u8.1 i = u3.1 i := fun i hi => (l4 i (by omega)).trans (q4.2.1 i (by omega) (by omega))
  have l2 : ∀ i, i < h + 5 → u8.1 i = u2.1 i := fun i hi => (l3 i (by omega)).trans (q3.2.1 i (by omega) (by omega))
  have l1 : ∀ i, i < h + 3 → u8.1 i = u1.1 i := fun i hi => (l2 i (by omega)).trans (q2.2.1 i (by omega) (by omega))
  have ea : u8.1 a = s.1 a := r8 a (by omega)
  have hh : ∀ i, i ≠ h → ∀ x y z v, mu (mu (mu (mu u8.1 h 8 x) h 9 y) h 10 z) h 11 v i = u8.1 i := fun i hi x y z v => by
    rw [mu_row hi, mu_row hi, mu_row hi, mu_row hi]
  dsimp only
  have hah : a ≠ h := by omega
  simp only [mu_row hah, ea]
  refine pk_some (show _ ∧ _ from ⟨⟨?_, ?_, ?_, ?_, ?_, ?_, ?_, ?_, ?_, ?_, ?_, ?_⟩, fun i hi => ?_, ?_, ?_, ?_⟩)
  all_goals dsimp only
  · exact TWr_same T1 ((hh _ (by omega) _ _ _ _).trans (l1 _ (by omega))) ((hh _ (by omega) _ _ _ _).trans (l1 _ (by omega))) rfl (fun _ _ _ _ => rfl)
  · exact TWr_same T2 ((hh _ (by omega) _ _ _ _).trans (l2 _ (by omega))) ((hh _ (by omega) _ _ _ _).trans (l2 _ (by omega))) rfl (fun _ _ _ _ => rfl)
  · exact LWr_same T3 ((hh _ (by omega) _ _ _ _).trans (l3 _ (by omega))) ((hh _ (by omega) _ _ _ _).trans (l3 _ (by omega))) (fun _ _ => rfl)
  · exact CWr_same T4 ((hh _ (by omega) _ _ _ _).trans (l4 _ (by omega))) ((hh _ (by omega) _ _ _ _).trans (l4 _ (by omega))) (fun _ _ _ => rfl)
  · exact TWr_same T5 ((hh _ (by omega) _ _ _ _).trans (l5 _ (by omega))) ((hh _ (by omega) _ _ _ _).trans (l5 _ (by omega))) rfl (fun _ _ _ _ => rfl)
  · exact TWr_same T6 ((hh _ (by omega) _ _ _ _).trans (l6 _ (by omega))) ((hh _ (by omega) _ _ _ _).trans (l6 _ (by omega))) rfl (fun _ _ _ _ => rfl)
  · exact TWr_same T7 ((hh _ (by omega) _ _ _ _).trans (l7 _ (by omega))) ((hh _ (by omega) _ _ _ _).trans (l7 _ (by omega))) rfl (fun _ _ _ _ => rfl)
  · exact TWr_same T8 (hh _ (by omega) _ _ _ _) (hh _ (by omega) _ _ _ _) rfl (fun _ _ _ _ => rfl)
  · rw [mu_cell (by omega), mu_cell (by omega), mu_cell (by omega), mu_same]; exact d1
  · rw [mu_cell (by omega), mu_cell (by omega), mu_same]; exact d2
  · rw [mu_cell (by omega), mu_same]; exact d3
  · rw [mu_same]; exact d4
  · rw [hh i (by omega)]; exact r8 i (by omega)
  · rw [hh _ (by omega), l1 _ (by omega)]; exact q1.2.2.2.1
  · rw [hh _ (by omega), l2 _ (by omega), q2.2.2.2.1, r1 _ (by omega) (by omega)]
  · rw [hh _ (by omega), l4 _ (by omega), q4.2.2.2.1, r3 _ (by omega)]
/-- the reference gives its image back .. -/
theorem V_giveI {s : mG} : pk (F_X12_image_13 (ci 0) s) (fun τ => τ.1 = ci 1 ∧ τ.2.1 88 4 = ci 1 ∧ τ.2.1 88 3 = ci 0 ∧ (∀ c, c ≠ 3 → c ≠ 4 → τ.2.1 88 c = s.1 88 c) ∧ (∀ j, j ≠ 88 → j ≠ 89 → τ.2.1 j = s.1 j) ∧ ∀ k, k < 1894 → τ.2.1 89 k = s.1 90 k) := by
  unfold F_X12_image_13 F_X12_image_L15
  refine pk_whl (fun v => v.1 = ci 0 ∧ (∀ j, j ≠ 89 → v.2.2.1 j = s.1 j) ∧ ∃ k, v.2.1 = cn k ∧ k ≤ 1894 ∧ ∀ j, j < k → v.2.2.1 89 j = s.1 90 j) ⟨rfl, fun _ _ => rfl, 0, rfl, by omega, fun j hj => absurd hj (by omega)⟩ (fun v hv => ?_)
  obtain ⟨x1, x2, u⟩ := v
  obtain ⟨g1, g2, k, g3, g4, g5⟩ := hv
  have g1 : x1 = ci 0 := g1
  have g2 : ∀ j, j ≠ 89 → u.1 j = s.1 j := g2
  have g3 : x2 = cn k := g3
  have g5 : ∀ j, j < k → u.1 89 j = s.1 90 j := g5
  subst g1; subst g3
  unfold F_X12_image_B15 F_X12_image_53 F_X12_forgets
  rw [c1894]
  by_cases hk : 1894 ≤ k
  · rw [if_pos ((cn_le (by omega) (by omega)).mpr hk), if_pos c0e0]
    dsimp only
    rw [b1_some, V_X12_image_67, b1_some]
    refine pk_some (show _ ∧ _ from ⟨rfl, mu_sameP, ?_, fun c h3 h4 => ?_, fun j h1 h2 => ?_, fun j hj => ?_⟩)
    all_goals dsimp only
    · rw [mu_cell (by decide)]; exact mu_same
    · rw [mu_cell (Or.inr h4), mu_cell (Or.inr h3), g2 88 (by decide)]
    · rw [mu_row h1, mu_row h1]; exact g2 j h2
    · rw [mu_row (by decide), mu_row (by decide)]; exact g5 j (by omega)
  · rw [if_neg (fun h => hk ((cn_le (by omega) (by omega)).mp h)), if_pos c0e0, if_neg (cn_ix (by omega) (by omega)), if_neg (cn_ix (by omega) (by omega)), cn_nat (by omega), cnu (by omega)]
    refine pk_some (show _ ∧ _ from ⟨rfl, fun j hj => (mu_row hj).trans (g2 j hj), k + 1, rfl, by omega, fun j hj => ?_⟩)
    show mu u.1 89 k (u.1 90 k) 89 j = _
    by_cases hjk : j = k
    · subst hjk; rw [mu_same]; exact congrFun (g2 90 (by decide)) j
    · rw [mu_cell (Or.inr hjk)]; exact g5 j (by omega)
/-- .. and takes it -/
theorem V_takeI {a1 : Int32} {s : mG} (ha : ¬ a1 = 0) : pk (F_X12_image_13 a1 s) (fun τ => τ.1 = ci 1 ∧ τ.2.1 88 4 = ci 1 ∧ (∀ c, c ≠ 4 → τ.2.1 88 c = s.1 88 c) ∧ (∀ j, j ≠ 88 → j ≠ 90 → τ.2.1 j = s.1 j) ∧ ∀ k, k < 1894 → τ.2.1 90 k = s.1 89 k) := by
  unfold F_X12_image_13 F_X12_image_L15
  refine pk_whl (fun v => v.1 = a1 ∧ (∀ j, j ≠ 90 → v.2.2.1 j = s.1 j) ∧ ∃ k, v.2.1 = cn k ∧ k ≤ 1894 ∧ ∀ j, j < k → v.2.2.1 90 j = s.1 89 j) ⟨rfl, fun _ _ => rfl, 0, rfl, by omega, fun j hj => absurd hj (by omega)⟩ (fun v hv => ?_)
  obtain ⟨x1, x2, u⟩ := v
  obtain ⟨g1, g2, k, g3, g4, g5⟩ := hv
  have g1 : x1 = a1 := g1
  have g2 : ∀ j, j ≠ 90 → u.1 j = s.1 j := g2
  have g3 : x2 = cn k := g3
  have g5 : ∀ j, j < k → u.1 90 j = s.1 89 j := g5
  subst g1; subst g3
  unfold F_X12_image_B15 F_X12_image_53
  rw [c1894]
  by_cases hk : 1894 ≤ k
  · rw [if_pos ((cn_le (by omega) (by omega)).mpr hk), if_neg ha, V_X12_image_67, b1_some]
    refine pk_some (show _ ∧ _ from ⟨rfl, mu_sameP, fun c h4 => ?_, fun j h1 h2 => ?_, fun j hj => ?_⟩)
    all_goals dsimp only
    · rw [mu_cell (Or.inr h4), g2 88 (by decide)]
    · rw [mu_row h1]; exact g2 j h2
    · rw [mu_row (by decide)]; exact g5 j (by omega)
  · rw [if_neg (fun h => hk ((cn_le (by omega) (by omega)).mp h)), if_neg ha, if_neg (cn_ix (by omega) (by omega)), if_neg (cn_ix (by omega) (by omega)), cn_nat (by omega), cnu (by omega)]
    refine pk_some (show _ ∧ _ from ⟨rfl, fun j hj => (mu_row hj).trans (g2 j hj), k + 1, rfl, by omega, fun j hj => ?_⟩)
    show mu u.1 90 k (u.1 89 k) 90 j = _
    by_cases hjk : j = k
    · subst hjk; rw [mu_same]; exact congrFun (g2 89 (by decide)) j
    · rw [mu_cell (Or.inr hjk)]; exact g5 j (by omega)
theorem HSr18_w {D : Nat → Nat → Int32} {w w' : Nat → Int32} (H : HSr 18 D w) (e : ∀ k, k < 1894 → w' k = w k) : HSr 18 D w' := by
  obtain ⟨t1, t2, t3, t4, t5, t6, t7, t8, c1, c2, c3, c4⟩ := H
  refine ⟨TWr_same t1 rfl rfl (e _ (by decide)) (fun a b ha hb => e _ (by have := ixG_rng ha hb; omega)), TWr_same t2 rfl rfl (e _ (by decide)) (fun a b ha hb => e _ (by unfold ixB; omega)), LWr_same t3 rfl rfl (fun k hk => e k (by omega)), CWr_same t4 rfl rfl (fun k h1 h2 => e k (by omega)), TWr_same t5 rfl rfl (e _ (by decide)) (fun a b ha hb => e _ (by unfold ixS; omega)), TWr_same t6 rfl rfl (e _ (by decide)) (fun a b ha hb => e _ (by unfold ixH; omega)), TWr_same t7 rfl rfl (e _ (by decide)) (fun a b ha hb => e _ (by unfold ixR; omega)), TWr_same t8 rfl rfl (e _ (by decide)) (fun a b ha hb => e _ (by unfold ixC; omega)), ?_, ?_, ?_, ?_⟩
  · rw [e 113 (by decide)]; exact c1
  · rw [e 114 (by decide)]; exact c2
  · rw [e 0 (by decide)]; exact c3
  · rw [e 1 (by decide)]; exact c4
theorem LTy_w {nc : Nat} {w w' : Nat → Int32} (h : LTy nc w) (e : ∀ k, k < 1894 → w' k = w k) : LTy nc w' := by
  obtain ⟨h1, n, hn, h2, h3⟩ := h
  refine ⟨h1, n, hn, by rw [e 117 (by decide)]; exact h2, fun r hr => ?_⟩
  obtain ⟨p, q, c, hpq, hqc, hc, z1, z2, z3, z4, z5⟩ := h3 r hr
  refine ⟨p, q, c, hpq, hqc, hc, by rw [e _ (by omega)]; exact z1, by rw [e _ (by omega)]; exact z2, by rw [e _ (by omega)]; exact z3, Rt_congr _ _ _ _ (fun j _ hj => e _ (by omega)) z4, ?_⟩
  rcases z5 with q | q
  · exact Or.inl q
  · exact Or.inr (Rt_congr _ _ _ _ (fun j _ hj => e _ (by omega)) q)
theorem R_image {a b : mG} {x : Int32} (h : SIM a b) (hC : CTs a) : rel (F_X11_image x a) (F_X12_image x b) (fun τ υ => τ.1 = υ.1 ∧ SIM τ.2 υ.2) := by
  obtain ⟨⟨n, nb, nc, hn, hnb, e2, e4, e8, H, L, V⟩, P, I⟩ := id h
  obtain ⟨i1, i2, ⟨k1, k2, k3, k4⟩, i3⟩ := id I
  unfold F_X11_image F_X12_image
  by_cases hx : x = 0
  · rw [if_pos hx, if_pos hx, i2]
    by_cases h4 : b.1 88 4 = 0
    · rw [if_pos h4, if_pos h4]; exact rel_some ⟨rfl, h⟩
    rw [if_neg h4, if_neg h4]
    obtain ⟨H18, m, mc, hm, g3, gc, LL, VV⟩ := i3 h4
    have hx0 : x = ci 0 := hx.trans c0e0.symm
    rw [hx0]
    intro τ hτ υ hυ
    obtain ⟨u, hu, hτ⟩ := m_b1 hτ
    unfold F_X5_forget at hτ
    dsimp only at hτ
    rw [b1_some] at hτ
    have hτ := Option.some.inj hτ
    subst hτ
    obtain ⟨q1, q2, q3, q4, q5⟩ := V_houseH (h := 1) (a := 18) (Or.inl (by decide)) ALh_1 ALh_18 H18 (HSr_SH H) u hu
    obtain ⟨r1, r2, r3, r4, r5, r6⟩ := V_giveI υ hυ
    have q2 : ∀ i, (i < 1 ∨ 17 < i) → u.1 i = a.1 i := q2
    obtain ⟨_, ⟨_, _, nb2, hnb2, f3, _⟩, _⟩ := id H18
    have e4' : b.1 88 4 = ci 1 := i1.resolve_left h4
    have y1 : mu u.1 35 1 (ci 0) 35 1 = ci 0 := mu_same
    have y2 : mu u.1 35 1 (ci 0) 35 2 = a.1 35 2 := (mu_cell (by decide)).trans (congrFun (q2 35 (by decide)) 2)
    have y0 : mu u.1 35 1 (ci 0) 0 = a.1 0 := (mu_row (by decide)).trans (q2 0 (by decide))
    refine ⟨r1.symm, SIM_forget h (u := (mu u.1 35 1 (ci 0), u.2)) (t := υ.2) hm hnb2 ?_ ?_ ?_ (HSr1_row q1 (fun j _ h2 => mu_row (by omega)) r6) (LTy_w LL r6) (VIm_congr hm (fun k hk => r6 k (by omega)) VV) y1 y2 (fun j h1 h2 => (mu_row (by omega)).trans (q2 j (by omega))) r3 (congrFun y0 2) (fun j h1 h2 => (mu_row (by omega)).trans (q2 j (by omega))) (r2.trans e4'.symm) (r5 90 (by decide) (by decide))⟩
    · have z : mu u.1 35 1 (ci 0) 2 = u.1 2 := mu_row (by decide)
      exact (congrFun z 3).trans (q3.trans g3)
    · have z : mu u.1 35 1 (ci 0) 4 = u.1 4 := mu_row (by decide)
      exact (congrFun z 3).trans (q4.trans f3)
    · have z : mu u.1 35 1 (ci 0) 8 = u.1 8 := mu_row (by decide)
      exact (congrFun z 3).trans (q5.trans gc)
  · rw [if_neg hx, if_neg hx]
    have sh : SHh 18 a := ⟨k1, k2, hC (23, 4, 16) (by decide), hC (25, 1, 400) (by decide), hC (27, 2, 6) (by decide), hC (29, 4, 12) (by decide), k3, k4⟩
    intro τ hτ υ hυ
    obtain ⟨u, hu, hτ⟩ := m_b1 hτ
    have hτ := Option.some.inj hτ
    subst hτ
    obtain ⟨q1, q2, q3, q4, q5⟩ := V_houseH (h := 18) (a := 1) (Or.inr (by decide)) ALh_18 ALh_1 H sh u hu
    obtain ⟨r1, r2, r3, r4, r5⟩ := V_takeI hx υ hυ
    have q2 : ∀ i, (i < 18 ∨ 34 < i) → u.1 i = a.1 i := q2
    have q3 : u.1 19 3 = a.1 2 3 := q3
    have q5 : u.1 25 3 = a.1 8 3 := q5
    have r89 : υ.2.1 89 = b.1 89 := r4 89 (by decide) (by decide)
    have D : ∀ j, j ≠ 0 → mu u.1 0 2 (ci 1) j = u.1 j := fun j hj => mu_row hj
    have sh2 : SHh 18 u := HSr_SH q1
    refine ⟨r1.symm, ⟨n, nb, nc, hn, hnb, ?_, ?_, ?_, ?_, by rw [r89]; exact L, by rw [r89]; exact V⟩, ?_, ?_⟩
    · show mu u.1 0 2 (ci 1) 2 3 = _
      rw [D 2 (by decide), q2 2 (by decide)]; exact e2
    · show mu u.1 0 2 (ci 1) 4 3 = _
      rw [D 4 (by decide), q2 4 (by decide)]; exact e4
    · show mu u.1 0 2 (ci 1) 8 3 = _
      rw [D 8 (by decide), q2 8 (by decide)]; exact e8
    · rw [r89]
      exact HSr1_row H (fun j h1 h2 => (D j (by omega)).trans (q2 j (by omega))) (fun _ _ => rfl)
    · have rr : ∀ j, j ≠ 0 → (j < 18 ∨ 34 < j) → mu u.1 0 2 (ci 1) j = a.1 j := fun j h1 h2 => (D j h1).trans (q2 j h2)
      exact PSr_go P (rr 35 (by decide) (by decide)) (r3 3 (by decide)) (r4 91 (by decide) (by decide)) (rr 2 (by decide) (by decide)) e2 hn e4 (Nat.le_refl _) hnb (by rw [show (((ci 1), (mu u.1 0 2 (ci 1), u.2)) : Int32 × mG).2.1 4 = a.1 4 from rr 4 (by decide) (by decide)]; exact e4) (fun j h1 h2 => rr j (by omega) (by omega)) (fun r c _ _ => congrFun (rr 3 (by decide) (by decide)) _)
    · refine ⟨by rw [r2]; exact pb1, (show mu u.1 0 2 (ci 1) 0 2 = ci 1 from mu_same).trans r2.symm, ⟨TS_row sh2.1 (D 19 (by decide)), TS_row sh2.2.1 (D 21 (by decide)), TS_row sh2.2.2.2.2.2.2.1 (D 31 (by decide)), TS_row sh2.2.2.2.2.2.2.2 (D 33 (by decide))⟩, fun _ => ⟨HSr18_w (HSr18_row q1 (fun j h1 h2 => D j (by omega))) r5, n, nc, hn, ?_, ?_, LTy_w L r5, VIm_congr hn (fun k hk => r5 k (by omega)) V⟩⟩
      · show mu u.1 0 2 (ci 1) 19 3 = _
        rw [D 19 (by decide), q3]; exact e2
      · show mu u.1 0 2 (ci 1) 25 3 = _
        rw [D 25 (by decide), q5]; exact e8
end
