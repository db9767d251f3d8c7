/-! THE REFERENCE: going back, coming, hanging, the image, the tape -/
theorem keeps_49 {s : mG} (hI : IM s) (hm : (s.1 88 3).toInt ≤ 5) : ok (F_X12_keeps_49 s) (fun s' => RX s s' ∧ s'.1 89 = s.1 89) := by
  have ib := im_back hI
  obtain ⟨m, em⟩ : ∃ m : Nat, (s.1 88 3).toInt = (m : Int) := ⟨(s.1 88 3).toInt.toNat, by omega⟩
  unfold F_X12_keeps_49 F_X12_keeps_L51
  refine ok_whl (fun v => (∀ j, j ≠ 91 → v.2.1 j = s.1 j) ∧ 0 ≤ v.1.toInt ∧ v.1.toInt ≤ 112 ∧ (∀ k : Nat, (k : Int) < v.1.toInt → v.2.1 91 (112 * m + k) = s.1 89 k) ∧ (∀ k : Nat, k < 112 * m → v.2.1 91 k = s.1 91 k)) (fun v => mUp v.1) ⟨fun _ _ => rfl, show 0 ≤ (ci 0).toInt by decide, show (ci 0).toInt ≤ 112 by decide, fun k (hk : (k : Int) < (ci 0).toInt) => by rw [show (ci 0).toInt = 0 by decide] at hk; omega, fun _ _ => rfl⟩ (fun v hv => ?_)
  obtain ⟨x1, s1⟩ := v
  obtain ⟨r1, r2, r3, r4, r5⟩ := hv
  have h1 : ∀ j, j ≠ 91 → s1.1 j = s.1 j := r1
  have h2 : 0 ≤ x1.toInt := r2
  have h3 : x1.toInt ≤ 112 := r3
  have h4 : ∀ k : Nat, (k : Int) < x1.toInt → s1.1 91 (112 * m + k) = s.1 89 k := r4
  have h5 : ∀ k : Nat, k < 112 * m → s1.1 91 k = s.1 91 k := r5
  clear r1 r2 r3 r4 r5
  have e3 : s1.1 88 3 = s.1 88 3 := congrFun (h1 88 (by decide)) 3
  show ok (F_X12_keeps_B51 x1 s1) _
  unfold F_X12_keeps_B51
  refine ok_ite (fun c => ?_) (fun c => ?_)
  · have c1 := r_le (by decide : (c8 112).toInt = 112) (rfl : x1.toInt = _) c
    refine ok_some (lp_inr ?_)
    have row : ∀ j, j ≠ 88 → (mu s1.1 88 3 ((s1.1 88 3) + (ci 1)), s1.2).1 j = s1.1 j := fun j hj => mu_rowP hj
    have n3 : (mu s1.1 88 3 ((s1.1 88 3) + (ci 1)), s1.2).1 88 3 = s.1 88 3 + ci 1 := by rw [mu_sameP, e3]
    have t3 : (s.1 88 3 + ci 1).toInt = (m : Int) + 1 := by rw [t_up (by omega), em]
    have e89 : (mu s1.1 88 3 ((s1.1 88 3) + (ci 1)), s1.2).1 89 = s.1 89 := (row 89 (by decide)).trans (h1 89 (by decide))
    have e90 : (mu s1.1 88 3 ((s1.1 88 3) + (ci 1)), s1.2).1 90 = s.1 90 := (row 90 (by decide)).trans (h1 90 (by decide))
    have e91 : (mu s1.1 88 3 ((s1.1 88 3) + (ci 1)), s1.2).1 91 = s1.1 91 := row 91 (by decide)
    have e4 : (mu s1.1 88 3 ((s1.1 88 3) + (ci 1)), s1.2).1 88 4 = s.1 88 4 := (mu_cellP (by omega)).trans (congrFun (h1 88 (by decide)) 4)
    have e15 : (mu s1.1 88 3 ((s1.1 88 3) + (ci 1)), s1.2).1 88 15 = s.1 88 15 := (mu_cellP (by omega)).trans (congrFun (h1 88 (by decide)) 15)
    refine ⟨⟨⟨⟨?_, ?_, ?_, ?_, ?_, ?_⟩, fun j hj => (row j (by omega)).trans (h1 j (by omega)), e15⟩, fun _ _ => by rw [e89]⟩, e89⟩
    · rw [e89]; exact hI.1
    · rw [e89]; exact hI.2.1
    · rw [e4, e90]; exact hI.2.2.1
    · rw [n3, t3]; omega
    · intro j hj hl
      rw [n3, t3] at hl
      rw [e89, e91]
      by_cases q : j = m
      · subst q
        exact KI_congr (fun k hk => h4 k (by unfold kK at hk; omega)) hI.2.1
      · exact KI_congr (fun k hk => h5 _ (by unfold kK at hk; omega)) (hI.2.2.2.2.1 j hj (by omega))
    · rw [e15]; exact hI.2.2.2.2.2
  · have c1 := r_nle (by decide : (c8 112).toInt = 112) (rfl : x1.toInt = _) c
    refine ok_nn (ix_ok (rfl : x1.toInt = _) (by omega) (by omega)) ?_
    rw [e3]
    refine ok_nn (ix_ok (r_add (r_mul (by decide : (c8 112).toInt = 112) em (by omega) (by omega)) (rfl : x1.toInt = _) (by omega) (by omega)) (by omega) (by omega)) ?_
    rw [r_nat2 (m := 112 * m + x1.toInt.toNat) (r_add (r_mul (by decide : (c8 112).toInt = 112) em (by omega) (by omega)) (rfl : x1.toInt = _) (by omega) (by omega)) (by omega)]
    extract_lets +onlyGivenNames s8
    have g1 : ∀ j, j ≠ 91 → s8.1 j = s.1 j := fun j hj => (mu_rowP hj : s8.1 j = s1.1 j).trans (h1 j hj)
    have g0 : s8.1 91 (112 * m + x1.toInt.toNat) = s.1 89 x1.toNatClampNeg := (mu_sameP : s8.1 91 (112 * m + x1.toInt.toNat) = s1.1 89 x1.toNatClampNeg).trans (by rw [h1 89 (by decide)])
    have g2 : ∀ k, k ≠ 112 * m + x1.toInt.toNat → s8.1 91 k = s1.1 91 k := fun k hk => mu_cellP (Or.inr hk)
    clear_value s8
    have g4 : ∀ k : Nat, (k : Int) < (x1 + ci 1).toInt → s8.1 91 (112 * m + k) = s.1 89 k := by
      intro k hk
      rw [t_up (by omega)] at hk
      by_cases q : k = x1.toInt.toNat
      · subst q; exact g0
      · rw [g2 _ (by omega)]; exact h4 k (by omega)
    exact ok_some (lp_inl ⟨g1, up_0 (x := x1) h2 (by omega), up_le (x := x1) (by omega) (by omega), g4, fun k hk => (g2 k (by omega)).trans (h5 k hk)⟩ (up_t (x := x1) (by omega)))
theorem T_X12_keeps {s : mG} (hI : IM s) : ok (F_X12_keeps s) (fun s' => RX s s' ∧ s'.1 89 = s.1 89) := by
  have ib := im_back hI
  unfold F_X12_keeps
  refine ok_ite (fun c => ?_) (fun c => ?_)
  · have c6 := r_eq (rfl : (s.1 88 3).toInt = _) (by decide : (c8 6).toInt = 6) c
    unfold F_X12_keeps_L11
    refine ok_whl (fun v => (∀ j, j ≠ 91 → v.2.1 j = s.1 j) ∧ 0 ≤ v.1.toInt ∧ v.1.toInt ≤ 560 ∧ (∀ k : Nat, (k : Int) < v.1.toInt → v.2.1 91 k = s.1 91 (k + 112)) ∧ (∀ k : Nat, v.1.toInt ≤ (k : Int) → v.2.1 91 k = s.1 91 k)) (fun v => mUp v.1) ⟨fun _ _ => rfl, show 0 ≤ (ci 0).toInt by decide, show (ci 0).toInt ≤ 560 by decide, fun k (hk : (k : Int) < (ci 0).toInt) => by rw [show (ci 0).toInt = 0 by decide] at hk; omega, fun _ _ => rfl⟩ (fun v hv => ?_)
    obtain ⟨x1, s1⟩ := v
    obtain ⟨r1, r2, r3, r4, r5⟩ := hv
    have h1 : ∀ j, j ≠ 91 → s1.1 j = s.1 j := r1
    have h2 : 0 ≤ x1.toInt := r2
    have h3 : x1.toInt ≤ 560 := r3
    have h4 : ∀ k : Nat, (k : Int) < x1.toInt → s1.1 91 k = s.1 91 (k + 112) := r4
    have h5 : ∀ k : Nat, x1.toInt ≤ (k : Int) → s1.1 91 k = s.1 91 k := r5
    clear r1 r2 r3 r4 r5
    show ok (F_X12_keeps_B11 x1 s1) _
    unfold F_X12_keeps_B11
    refine ok_ite (fun c => ?_) (fun c => ?_)
    · have c1 := r_le (by decide : (c16 560).toInt = 560) (rfl : x1.toInt = _) c
      have e3 : s1.1 88 3 = s.1 88 3 := congrFun (h1 88 (by decide)) 3
      extract_lets +onlyGivenNames s3
      have row : ∀ j, j ≠ 88 → s3.1 j = s1.1 j := fun j hj => mu_rowP hj
      have t3 : (s3.1 88 3).toInt = 5 := by
        rw [show s3.1 88 3 = s1.1 88 3 - ci 1 from mu_sameP, e3]
        rw [r_sub (rfl : (s.1 88 3).toInt = _) (by decide : (ci 1).toInt = 1) (by omega) (by omega)]
        omega
      have e4 : s3.1 88 4 = s.1 88 4 := (mu_cellP (by omega) : s3.1 88 4 = s1.1 88 4).trans (congrFun (h1 88 (by decide)) 4)
      have e15 : s3.1 88 15 = s.1 88 15 := (mu_cellP (by omega) : s3.1 88 15 = s1.1 88 15).trans (congrFun (h1 88 (by decide)) 15)
      clear_value s3
      have e89 : s3.1 89 = s.1 89 := (row 89 (by decide)).trans (h1 89 (by decide))
      have e90 : s3.1 90 = s.1 90 := (row 90 (by decide)).trans (h1 90 (by decide))
      have e91 : s3.1 91 = s1.1 91 := row 91 (by decide)
      have I3 : IM s3 := by
        refine ⟨by rw [e89]; exact hI.1, by rw [e89]; exact hI.2.1, by rw [e4, e90]; exact hI.2.2.1, by omega, ?_, by rw [e15]; exact hI.2.2.2.2.2⟩
        intro j hj hl
        rw [e89, e91]
        refine KI_congr (fun k hk => ?_) (hI.2.2.2.2.1 (j + 1) (by omega) (by omega))
        have hk2 : k < 112 := by unfold kK at hk; omega
        rw [h4 (112 * j + k) (by omega), show 112 * j + k + 112 = 112 * (j + 1) + k by omega]
      refine ok_b1r (ok_mono (keeps_49 I3 (by omega)) (fun s' h => ?_))
      exact ⟨RX_tr ⟨⟨I3, fun j hj => (row j (by omega)).trans (h1 j (by omega)), e15⟩, fun _ _ => by rw [e89]⟩ h.1, h.2.trans e89⟩
    · have c1 := r_nle (by decide : (c16 560).toInt = 560) (rfl : x1.toInt = _) c
      refine ok_nn (ix_ok (r_add (rfl : x1.toInt = _) (by decide : (c8 112).toInt = 112) (by omega) (by omega)) (by omega) (by omega)) ?_
      refine ok_nn (ix_ok (rfl : x1.toInt = _) (by omega) (by omega)) ?_
      rw [r_nat2 (m := x1.toInt.toNat + 112) (r_add (rfl : x1.toInt = _) (by decide : (c8 112).toInt = 112) (by omega) (by omega)) (by omega), t_nat]
      extract_lets +onlyGivenNames s11
      have g1 : ∀ j, j ≠ 91 → s11.1 j = s.1 j := fun j hj => (mu_rowP hj : s11.1 j = s1.1 j).trans (h1 j hj)
      have g0 : s11.1 91 x1.toInt.toNat = s.1 91 (x1.toInt.toNat + 112) := (mu_sameP : s11.1 91 x1.toInt.toNat = s1.1 91 (x1.toInt.toNat + 112)).trans (h5 _ (by omega))
      have g2 : ∀ k, k ≠ x1.toInt.toNat → s11.1 91 k = s1.1 91 k := fun k hk => mu_cellP (Or.inr hk)
      clear_value s11
      have g4 : ∀ k : Nat, (k : Int) < (x1 + ci 1).toInt → s11.1 91 k = s.1 91 (k + 112) := by
        intro k hk
        rw [t_up (by omega)] at hk
        by_cases q : k = x1.toInt.toNat
        · subst q; exact g0
        · rw [g2 _ q]; exact h4 k (by omega)
      have g5 : ∀ k : Nat, (x1 + ci 1).toInt ≤ (k : Int) → s11.1 91 k = s.1 91 k := by
        intro k hk
        rw [t_up (by omega)] at hk
        rw [g2 _ (by omega)]; exact h5 k (by omega)
      exact ok_some (lp_inl ⟨g1, up_0 (x := x1) h2 (by omega), up_le (x := x1) (by omega) (by omega), g4, g5⟩ (up_t (x := x1) (by omega)))
  · have c6 := r_ne (rfl : (s.1 88 3).toInt = _) (by decide : (c8 6).toInt = 6) c
    exact keeps_49 hI (by omega)
theorem T_X12_undo {s : mG} (hI : IM s) : ok (F_X12_undo s) (fun τ => PB τ.1 ∧ RX s τ.2) := by
  have ib := im_back hI
  unfold F_X12_undo
  refine ok_ite (fun _ => ok_some ⟨pb0, RX_refl hI⟩) (fun c => ?_)
  have c0 := r_ne (rfl : (s.1 88 3).toInt = _) t_zero c
  obtain ⟨m, em⟩ : ∃ m : Nat, (s.1 88 3).toInt = (m : Int) + 1 := ⟨((s.1 88 3).toInt - 1).toNat, by omega⟩
  extract_lets +onlyGivenNames s2
  have row : ∀ j, j ≠ 88 → s2.1 j = s.1 j := fun j hj => mu_rowP hj
  have t3 : (s2.1 88 3).toInt = (m : Int) := by
    rw [show s2.1 88 3 = s.1 88 3 - ci 1 from mu_sameP]
    rw [r_sub (rfl : (s.1 88 3).toInt = _) (by decide : (ci 1).toInt = 1) (by omega) (by omega)]
    omega
  have e4 : s2.1 88 4 = s.1 88 4 := mu_cellP (by omega)
  have e15 : s2.1 88 15 = s.1 88 15 := mu_cellP (by omega)
  clear_value s2
  unfold F_X12_undo_L21
  refine ok_whl (fun v => (∀ j, j ≠ 89 → v.2.1 j = s2.1 j) ∧ 0 ≤ v.1.toInt ∧ v.1.toInt ≤ 112 ∧ (∀ k : Nat, (k : Int) < v.1.toInt → v.2.1 89 k = s.1 91 (112 * m + k)) ∧ (∀ k : Nat, 112 ≤ k → v.2.1 89 k = s.1 89 k)) (fun v => mUp v.1) ⟨fun _ _ => rfl, show 0 ≤ (ci 0).toInt by decide, show (ci 0).toInt ≤ 112 by decide, fun k (hk : (k : Int) < (ci 0).toInt) => by rw [show (ci 0).toInt = 0 by decide] at hk; omega, fun k _ => congrFun (row 89 (by decide)) k⟩ (fun v hv => ?_)
  obtain ⟨x1, s1⟩ := v
  obtain ⟨r1, r2, r3, r4, r5⟩ := hv
  have h1 : ∀ j, j ≠ 89 → s1.1 j = s2.1 j := r1
  have h2 : 0 ≤ x1.toInt := r2
  have h3 : x1.toInt ≤ 112 := r3
  have h4 : ∀ k : Nat, (k : Int) < x1.toInt → s1.1 89 k = s.1 91 (112 * m + k) := r4
  have h5 : ∀ k : Nat, 112 ≤ k → s1.1 89 k = s.1 89 k := r5
  clear r1 r2 r3 r4 r5
  have e88 : s1.1 88 = s2.1 88 := h1 88 (by decide)
  have e91 : s1.1 91 = s.1 91 := (h1 91 (by decide)).trans (row 91 (by decide))
  show ok (F_X12_undo_B21 x1 s1) _
  unfold F_X12_undo_B21
  refine ok_ite (fun c => ?_) (fun c => ?_)
  · have c1 := r_le (by decide : (c8 112).toInt = 112) (rfl : x1.toInt = _) c
    have e112 : s1.1 89 112 = s.1 89 112 := h5 112 (by omega)
    have e90 : s1.1 90 = s.1 90 := (h1 90 (by decide)).trans (row 90 (by decide))
    refine ok_some (lp_inr ⟨pb1, ⟨⟨⟨?_, ?_, ?_, ?_, ?_, ?_⟩, fun j hj => (h1 j (by omega)).trans (row j (by omega)), by rw [e88]; exact e15⟩, fun j hj => h5 j (by unfold SK at hj; omega)⟩⟩)
    · exact WI_congr (fun j hj => h5 j (by unfold kW at hj; omega)) hI.1
    · show KI (s1.1 89 112).toInt (s1.1 89)
      rw [e112]
      exact KI_congr (fun k hk => h4 k (by unfold kK at hk; omega)) (hI.2.2.2.2.1 m (by omega) (by omega))
    · show s1.1 88 4 ≠ 0 → _
      rw [e88, e4, e90]; exact hI.2.2.1
    · show 0 ≤ (s1.1 88 3).toInt ∧ (s1.1 88 3).toInt ≤ 6
      rw [e88]; omega
    · intro j hj hl
      replace hl : (j : Int) < (s1.1 88 3).toInt := hl
      rw [e88] at hl
      show KI (s1.1 89 112).toInt (fun k => s1.1 91 (112 * j + k))
      rw [e112, e91]
      exact hI.2.2.2.2.1 j hj (by omega)
    · show 0 ≤ (s1.1 88 15).toInt ∧ (s1.1 88 15).toInt ≤ 400
      rw [e88, e15]; exact hI.2.2.2.2.2
  · have c1 := r_nle (by decide : (c8 112).toInt = 112) (rfl : x1.toInt = _) c
    rw [e88]
    refine ok_nn (ix_ok (r_add (r_mul (by decide : (c8 112).toInt = 112) t3 (by omega) (by omega)) (rfl : x1.toInt = _) (by omega) (by omega)) (by omega) (by omega)) ?_
    refine ok_nn (ix_ok (rfl : x1.toInt = _) (by omega) (by omega)) ?_
    rw [r_nat2 (m := 112 * m + x1.toInt.toNat) (r_add (r_mul (by decide : (c8 112).toInt = 112) t3 (by omega) (by omega)) (rfl : x1.toInt = _) (by omega) (by omega)) (by omega), t_nat]
    extract_lets +onlyGivenNames s6
    have g1 : ∀ j, j ≠ 89 → s6.1 j = s2.1 j := fun j hj => (mu_rowP hj : s6.1 j = s1.1 j).trans (h1 j hj)
    have g0 : s6.1 89 x1.toInt.toNat = s.1 91 (112 * m + x1.toInt.toNat) := (mu_sameP : s6.1 89 x1.toInt.toNat = s1.1 91 (112 * m + x1.toInt.toNat)).trans (by rw [e91])
    have g2 : ∀ k, k ≠ x1.toInt.toNat → s6.1 89 k = s1.1 89 k := fun k hk => mu_cellP (Or.inr hk)
    clear_value s6
    have g4 : ∀ k : Nat, (k : Int) < (x1 + ci 1).toInt → s6.1 89 k = s.1 91 (112 * m + k) := by
      intro k hk
      rw [t_up (by omega)] at hk
      by_cases q : k = x1.toInt.toNat
      · subst q; exact g0
      · rw [g2 _ q]; exact h4 k (by omega)
    exact ok_some (lp_inl ⟨g1, up_0 (x := x1) h2 (by omega), up_le (x := x1) (by omega) (by omega), g4, fun k hk => (g2 k (by omega)).trans (h5 k hk)⟩ (up_t (x := x1) (by omega)))
theorem T_X12_hours {a1 : Int32} {s : mG} (hI : IM s) : ok (F_X12_hours a1 s) (fun τ => True ∧ RX s τ.2) := by
  unfold F_X12_hours F_X12_hours_24
  refine ok_b1 (T_X12_isIn hI) (fun v2 _ => ?_)
  refine ok_ite (fun _ => ok_some ⟨trivial, RX_refl hI⟩) (fun _ => ?_)
  refine ok_ite (fun _ => ?_) (fun _ => ok_some ⟨trivial, RX_refl hI⟩)
  unfold F_X12_hours_L30
  refine ok_whl (fun v => a1 = v.1 ∧ RX s v.2.2.2) (fun v => mUp v.2.2.1) ⟨rfl, RX_refl hI⟩ (fun v hv => ?_)
  obtain ⟨x1, x2, x3, s1⟩ := v
  obtain ⟨rfl, r1⟩ := hv
  have h1 : RX s s1 := r1
  clear r1
  show ok (F_X12_hours_B30 a1 x2 x3 s1) _
  unfold F_X12_hours_B30
  refine ok_ite (fun _ => ok_some (lp_inr ⟨trivial, h1⟩)) (fun c => ?_)
  refine ok_b1 (T_X12_keeps h1.1.1) (fun s7 h7 => ?_)
  have h7 : RX s s7 := RX_tr h1 h7.1
  refine ok_b2 (ok_rx2 h7 (T_X12_anHour h7.1.1)) (fun v10 s9 h9 => ?_)
  have h9 : RX s s9 := h9.2
  exact ok_some (lp_inl ⟨rfl, h9⟩ (up_t (x := x3) (ge_t c)))
theorem T_X12_hang {a1 a2 : Int32} {s : mG} (hI : IM s) : ok (F_X12_hang a1 a2 s) (fun τ => PB τ.1 ∧ RX s τ.2) := by
  have i := im_112 hI
  unfold F_X12_hang F_X12_hang_36
  have no : ok (some ((ci 0), s)) (fun τ => PB τ.1 ∧ RX s τ.2) := ok_some ⟨pb0, RX_refl hI⟩
  refine ok_b1 (T_X12_isGuest hI) (fun v2 hv2 => ?_)
  refine ok_ite (fun _ => no) (fun c2 => ?_)
  have f2 := hv2.2 c2
  refine ok_b1 (T_X12_isGuest hI) (fun v5 hv5 => ?_)
  refine ok_ite (fun _ => no) (fun c5 => ?_)
  have f5 := hv5.2 c5
  refine ok_nn (ix_ok (r_add (by decide : (ci 3).toInt = 3) (rfl : a1.toInt = _) (by omega) (by omega)) (by omega) (by omega)) ?_
  refine ok_ite (fun _ => no) (fun _ => ?_)
  refine ok_b1 (T_X12_keyOn hI) (fun v10 hv10 => ?_)
  refine ok_ite (fun c => ?_) (fun _ => no)
  have hk := hv10 c
  refine ok_b1 (T_X12_keeps hI) (fun s13 h13 => ?_)
  have g13 : RX s s13 := h13.1
  have e89 : s13.1 89 = s.1 89 := h13.2
  clear h13
  refine ok_nn (ix_ok (r_add (by decide : (c8 15).toInt = 15) (rfl : a1.toInt = _) (by omega) (by omega)) (by omega) (by omega)) ?_
  extract_lets +onlyGivenNames s15
  have h15 : RX s s15 := RX_key g13 f2.1 (by rw [e89]; exact f2.2) (Or.inr ⟨f5.1, by rw [e89]; exact f5.2, by rw [e89]; exact hk⟩)
  clear_value s15
  refine ok_b1 (ok_rx h15 (T_X12_notes h15.1.1)) (fun s17 (h17 : RX s s17) => ?_)
  exact ok_some ⟨pb1, h17⟩
theorem T_X12_looks {a1 a2 a3 : Int32} {s : mG} (hI : IM s) : ok (F_X12_looks a1 a2 a3 s) (fun τ => PB τ.1 ∧ RX s τ.2) := by
  have i := im_112 hI
  have i2 := im_115 hI
  unfold F_X12_looks F_X12_looks_43
  have no : ok (some ((ci 0), s)) (fun τ => PB τ.1 ∧ RX s τ.2) := ok_some ⟨pb0, RX_refl hI⟩
  refine ok_b1 (T_X12_isGuest hI) (fun v2 hv2 => ?_)
  refine ok_ite (fun _ => no) (fun c2 => ?_)
  have f2 := hv2.2 c2
  refine ok_b1 (T_X12_isSign hI) (fun v5 hv5 => ?_)
  refine ok_ite (fun _ => no) (fun c5 => ?_)
  have f5 := hv5.2 c5
  refine ok_b1 (T_X12_isIn hI) (fun v8 _ => ?_)
  refine ok_ite (fun _ => no) (fun _ => ?_)
  refine ok_nn (ix_ok (r_add (r_add (by decide : (c8 39).toInt = 39) (r_mul (by decide : (c8 6).toInt = 6) (rfl : a1.toInt = _) (by omega) (by omega)) (by omega) (by omega)) (rfl : a2.toInt = _) (by omega) (by omega)) (by omega) (by omega)) ?_
  refine ok_ite (fun _ => no) (fun _ => ?_)
  refine ok_b1 (T_X12_keeps hI) (fun s13 h13 => ?_)
  have g13 : RX s s13 := h13.1
  clear h13
  refine ok_nn (ix_ok (r_add (r_add (by decide : (c8 39).toInt = 39) (r_mul (by decide : (c8 6).toInt = 6) (rfl : a1.toInt = _) (by omega) (by omega)) (by omega) (by omega)) (rfl : a2.toInt = _) (by omega) (by omega)) (by omega) (by omega)) ?_
  extract_lets +onlyGivenNames s15
  have h15 : RX s s15 := RX_fe g13 (r_add (r_add (by decide : (c8 39).toInt = 39) (r_mul (by decide : (c8 6).toInt = 6) (rfl : a1.toInt = _) (by omega) (by omega)) (by omega) (by omega)) (rfl : a2.toInt = _) (by omega) (by omega)) (by unfold fr kW kK SK; omega)
  clear_value s15
  exact ok_some ⟨pb1, h15⟩
theorem T_X12_set {a1 a2 a3 : Int32} {s : mG} (hI : IM s) : ok (F_X12_set a1 a2 a3 s) (fun τ => PB τ.1 ∧ RX s τ.2) := by
  have i := im_112 hI
  unfold F_X12_set F_X12_set_92
  have no : ok (some ((ci 0), s)) (fun τ => PB τ.1 ∧ RX s τ.2) := ok_some ⟨pb0, RX_refl hI⟩
  have fin : ∀ s', RX s s' → ok (F_X12_set_110 s') (fun τ => PB τ.1 ∧ RX s τ.2) := by
    intro s' h
    unfold F_X12_set_110
    refine ok_b1 (ok_rx h (T_X12_forgets h.1.1)) (fun s7 (h7 : RX s s7) => ?_)
    exact ok_some ⟨pb1, h7⟩
  refine ok_ite (fun _ => ?_) (fun _ => ok_ite (fun _ => ?_) (fun _ => ok_ite (fun _ => ?_) (fun _ => no)))
  · refine ok_b1 (T_X12_isIn hI) (fun v3 _ => ?_)
    refine ok_ite (fun _ => no) (fun _ => ?_)
    exact fin _ (RX_free (RX_refl hI) (by unfold fr kW kK SK; omega))
  · refine ok_b1 (T_X12_isIn hI) (fun v3 _ => ?_)
    refine ok_ite (fun _ => no) (fun _ => ?_)
    exact fin _ (RX_free (RX_refl hI) (by unfold fr kW kK SK; omega))
  · refine ok_b1 (T_X12_isGuest hI) (fun v2 hv2 => ?_)
    refine ok_ite (fun _ => no) (fun c2 => ?_)
    have f2 := hv2.2 c2
    refine ok_b1 (T_X12_isIn hI) (fun v3 _ => ?_)
    refine ok_ite (fun _ => no) (fun _ => ?_)
    refine ok_nn (ix_ok (r_add (by decide : (c16 131).toInt = 131) (rfl : a2.toInt = _) (by omega) (by omega)) (by omega) (by omega)) ?_
    exact fin _ (RX_fe (RX_refl hI) (r_add (by decide : (c16 131).toInt = 131) (rfl : a2.toInt = _) (by omega) (by omega)) (by unfold fr kW kK SK; omega))
