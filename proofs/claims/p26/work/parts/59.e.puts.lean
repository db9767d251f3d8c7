/-! THE REFERENCE READS A TEXT: what was read is put into the house -/
def RF15 (s s' : mG) : Prop := RF s s' ∧ s'.1 88 15 = s.1 88 15
theorem T_X12_putsLaw {s : mG} (hI : IM s) (hs0 : 0 ≤ (s.1 88 13).toInt) (hs : (s.1 88 13).toInt ≤ 410) (hl0 : 0 ≤ (s.1 88 12).toInt) (hl : (s.1 88 12).toInt ≤ 16) (hL : ∀ i : Nat, (i : Int) < (s.1 88 12).toInt → LO s i) : ok (F_X12_putsLaw s) (fun τ => True ∧ RF15 s τ.2) := by
  unfold F_X12_putsLaw
  extract_lets +onlyGivenNames s1
  have r1 : ∀ j, j ≠ 89 → s1.1 j = s.1 j := fun j hj => mu_rowP hj
  have c1 : ∀ k, k ≠ 117 → s1.1 89 k = s.1 89 k := fun k hk => mu_cellP (Or.inr hk)
  have v1 : s1.1 89 117 = s.1 88 12 := mu_sameP
  clear_value s1
  unfold F_X12_putsLaw_L13
  refine ok_whl (fun v => 0 ≤ v.1.toInt ∧ v.1.toInt ≤ 16 ∧ (∀ j, j ≠ 89 → v.2.1 j = s.1 j) ∧ (∀ k, k ≠ 117 → ¬ (985 ≤ k ∧ k ≤ 1048) → v.2.1 89 k = s.1 89 k) ∧ v.2.1 89 117 = s.1 88 12 ∧ (∀ i : Nat, (i : Int) < v.1.toInt → v.2.1 89 (985 + i) = s.1 92 (4 * i) ∧ v.2.1 89 (1001 + i) = s.1 92 (4 * i + 1) ∧ v.2.1 89 (1017 + i) = s.1 92 (4 * i + 2))) (fun v => mUp v.1) ⟨show 0 ≤ (ci 0).toInt by decide, show (ci 0).toInt ≤ 16 by decide, r1, fun k h1 _ => c1 k h1, v1, fun i (hi : (i : Int) < (ci 0).toInt) => by rw [show (ci 0).toInt = 0 by decide] at hi; omega⟩ (fun v hv => ?_)
  obtain ⟨x1, s2⟩ := v
  obtain ⟨q1, q2, q3, q4, q5, q6⟩ := hv
  have k1 : 0 ≤ x1.toInt := q1
  have k2 : x1.toInt ≤ 16 := q2
  have k3 : ∀ j, j ≠ 89 → s2.1 j = s.1 j := q3
  have k4 : ∀ k, k ≠ 117 → ¬ (985 ≤ k ∧ k ≤ 1048) → s2.1 89 k = s.1 89 k := q4
  have k5 : s2.1 89 117 = s.1 88 12 := q5
  have k6 : ∀ i : Nat, (i : Int) < x1.toInt → s2.1 89 (985 + i) = s.1 92 (4 * i) ∧ s2.1 89 (1001 + i) = s.1 92 (4 * i + 1) ∧ s2.1 89 (1017 + i) = s.1 92 (4 * i + 2) := q6
  clear q1 q2 q3 q4 q5 q6
  show ok (F_X12_putsLaw_B13 x1 s2) _
  unfold F_X12_putsLaw_B13
  have e12 : s2.1 88 12 = s.1 88 12 := congrFun (k3 88 (by decide)) 12
  have e13 : s2.1 88 13 = s.1 88 13 := congrFun (k3 88 (by decide)) 13
  rw [e12]
  refine ok_ite (fun c => ?_) (fun c => ?_)
  · have d1 := r_le (rfl : (s.1 88 12).toInt = _) (rfl : x1.toInt = _) c
    refine ok_b1r ?_
    unfold F_X12_putsLaw_L107
    refine ok_whl (fun v => 0 ≤ v.1.toInt ∧ v.1.toInt ≤ 820 ∧ (∀ j, j ≠ 89 → v.2.1 j = s.1 j) ∧ (∀ k, ¬ (1050 ≤ k ∧ k ≤ 1869) → v.2.1 89 k = s2.1 89 k) ∧ (∀ i : Nat, (i : Int) < v.1.toInt → v.2.1 89 (1050 + i) = s.1 93 i)) (fun v => mUp v.1) ⟨show 0 ≤ (ci 0).toInt by decide, show (ci 0).toInt ≤ 820 by decide, k3, fun _ _ => rfl, fun i (hi : (i : Int) < (ci 0).toInt) => by rw [show (ci 0).toInt = 0 by decide] at hi; omega⟩ (fun v hv => ?_)
    obtain ⟨x2, s3⟩ := v
    obtain ⟨q1, q2, q3, q4, q5⟩ := hv
    have m1 : 0 ≤ x2.toInt := q1
    have m2 : x2.toInt ≤ 820 := q2
    have m3 : ∀ j, j ≠ 89 → s3.1 j = s.1 j := q3
    have m4 : ∀ k, ¬ (1050 ≤ k ∧ k ≤ 1869) → s3.1 89 k = s2.1 89 k := q4
    have m5 : ∀ i : Nat, (i : Int) < x2.toInt → s3.1 89 (1050 + i) = s.1 93 i := q5
    clear q1 q2 q3 q4 q5
    show ok (F_X12_putsLaw_B107 x2 s3) _
    unfold F_X12_putsLaw_B107
    have g13 : s3.1 88 13 = s.1 88 13 := congrFun (m3 88 (by decide)) 13
    rw [g13]
    refine ok_ite (fun c => ?_) (fun c => ?_)
    · have d2 := r_le (r_mul (by decide : (ci 2).toInt = 2) (rfl : (s.1 88 13).toInt = _) (by omega) (by omega)) (rfl : x2.toInt = _) c
      have cell : ∀ k, k ≠ 117 → ¬ (985 ≤ k ∧ k ≤ 1048) → ¬ (1050 ≤ k ∧ k ≤ 1869) → s3.1 89 k = s.1 89 k := fun k h1 h2 h3 => (m4 k h3).trans (k4 k h1 h2)
      have e117 : s3.1 89 117 = s.1 88 12 := (m4 117 (by omega)).trans k5
      refine ok_some (lp_inr ⟨trivial, ⟨⟨⟨?_, ?_, ?_, ?_, ?_, ?_⟩, fun j hj => m3 j (by omega), fun j hj => cell j (by unfold SK at hj; omega) (by unfold SK at hj; omega) (by unfold SK at hj; omega)⟩, congrFun (m3 88 (by decide)) 15⟩⟩)
      · show WI (s3.1 89)
        obtain ⟨w1, w2, w3, w4, w5, w6, w7, w8, w9, w10, w11⟩ := hI.1
        refine ⟨by rw [cell _ (by omega) (by omega) (by omega)]; exact w1, by rw [cell _ (by omega) (by omega) (by omega)]; exact w2, by rw [cell _ (by omega) (by omega) (by omega)]; exact w3, by rw [e117]; exact ⟨hl0, hl⟩, by rw [cell _ (by omega) (by omega) (by omega)]; exact w5, by rw [cell _ (by omega) (by omega) (by omega)]; exact w6, fun a ha => ?_, fun a ha hx => ?_, fun a ha hx => ?_, fun a ha hx => ?_, fun a ha hx => ?_⟩
        · rw [cell _ (by omega) (by omega) (by omega)]; exact w7 a ha
        · rw [cell _ (by omega) (by omega) (by omega)] at hx; rw [cell _ (by omega) (by omega) (by omega)]; exact w8 a ha hx
        · rw [cell _ (by omega) (by omega) (by omega)] at hx; rw [cell _ (by omega) (by omega) (by omega)]; exact w9 a ha hx
        · rw [cell _ (by omega) (by omega) (by omega)] at hx; rw [cell _ (by omega) (by omega) (by omega)]; exact w10 a ha hx
        · rw [e117] at hx
          obtain ⟨y1, y2, y3⟩ := k6 a (by omega)
          obtain ⟨p, q, r, o1, o2, o3, o4, o5, o6, o7, o8⟩ := hL a hx
          refine ⟨p, q, r, by omega, o2, o3, ?_, ?_, ?_, Rc_congr _ _ _ _ (fun j _ hj => m5 j (by omega)) o7, ?_⟩
          · rw [m4 _ (by omega), y1]; exact o4
          · rw [m4 _ (by omega), y2]; exact o5
          · rw [m4 _ (by omega), y3]; exact o6
          · rcases o8 with e | e
            · exact Or.inl e
            · exact Or.inr (Rc_congr _ _ _ _ (fun j _ hj => m5 j (by omega)) e)
      · show KI (s3.1 89 112).toInt (s3.1 89)
        rw [cell 112 (by omega) (by omega) (by omega)]
        exact KI_congr (fun j hj => cell j (by unfold kK at hj; omega) (by unfold kK at hj; omega) (by unfold kK at hj; omega)) hI.2.1
      · show s3.1 88 4 ≠ 0 → _
        rw [m3 88 (by decide), m3 90 (by decide)]; exact hI.2.2.1
      · show 0 ≤ (s3.1 88 3).toInt ∧ (s3.1 88 3).toInt ≤ 6
        rw [m3 88 (by decide)]; exact hI.2.2.2.1
      · intro j hj hx
        replace hx : (j : Int) < (s3.1 88 3).toInt := hx
        rw [m3 88 (by decide)] at hx
        show KI (s3.1 89 112).toInt (fun k => s3.1 91 (112 * j + k))
        rw [cell 112 (by omega) (by omega) (by omega), m3 91 (by decide)]
        exact hI.2.2.2.2.1 j hj hx
      · show 0 ≤ (s3.1 88 15).toInt ∧ (s3.1 88 15).toInt ≤ 400
        rw [m3 88 (by decide)]; exact hI.2.2.2.2.2
    · have d2 := r_nle (r_mul (by decide : (ci 2).toInt = 2) (rfl : (s.1 88 13).toInt = _) (by omega) (by omega)) (rfl : x2.toInt = _) c
      refine ok_nn (ix_ok (rfl : x2.toInt = _) (by omega) (by omega)) ?_
      refine ok_nn (ix_ok (r_add (by decide : (c16 1050).toInt = 1050) (rfl : x2.toInt = _) (by omega) (by omega)) (by omega) (by omega)) ?_
      rw [r_nat2 (e := (c16 1050) + x2) (m := 1050 + x2.toInt.toNat) (r_add (by decide : (c16 1050).toInt = 1050) (rfl : x2.toInt = _) (by omega) (by omega)) (by omega), t_nat]
      extract_lets +onlyGivenNames s6
      have g1 : ∀ j, j ≠ 89 → s6.1 j = s.1 j := fun j hj => (mu_rowP hj : s6.1 j = s3.1 j).trans (m3 j hj)
      have g0 : s6.1 89 (1050 + x2.toInt.toNat) = s.1 93 x2.toInt.toNat := (mu_sameP : s6.1 89 (1050 + x2.toInt.toNat) = s3.1 93 x2.toInt.toNat).trans (by rw [m3 93 (by decide)])
      have g2 : ∀ k, k ≠ 1050 + x2.toInt.toNat → s6.1 89 k = s3.1 89 k := fun k hk => mu_cellP (Or.inr hk)
      clear_value s6
      have g4 : ∀ i : Nat, (i : Int) < (x2 + ci 1).toInt → s6.1 89 (1050 + i) = s.1 93 i := by
        intro i hi
        rw [t_up (by omega)] at hi
        by_cases q : i = x2.toInt.toNat
        · subst q; exact g0
        · rw [g2 _ (by omega)]; exact m5 i (by omega)
      exact ok_some (lp_inl ⟨up_0 (x := x2) m1 (by omega), up_le (x := x2) (by omega) (by omega), g1, fun k hk => (g2 k (by omega)).trans (m4 k hk), g4⟩ (up_t (x := x2) (by omega)))
  · have d1 := r_nle (rfl : (s.1 88 12).toInt = _) (rfl : x1.toInt = _) c
    obtain ⟨n, en⟩ : ∃ n : Nat, x1.toInt = (n : Int) := ⟨x1.toInt.toNat, by omega⟩
    have F : ∀ {d : Int32} {i : Nat}, d.toInt = (i : Int) → i < 4 → (((ci 4) * x1) + d).toInt = 4 * (n : Int) + i := fun hd hi => r_add (r_mul (by decide) en (by omega) (by omega)) hd (by omega) (by omega)
    have W : ∀ {d : Int32} {b : Nat}, d.toInt = (b : Int) → b < 2000 → (d + x1).toInt = (b : Int) + n := fun hd hb => r_add hd en (by omega) (by omega)
    have e92 : ∀ k, s2.1 92 k = s.1 92 k := fun k => congrFun (k3 92 (by decide)) k
    refine ok_nn (ix_ok (r_mul (by decide : (ci 4).toInt = 4) en (by omega) (by omega)) (by omega) (by omega)) ?_
    refine ok_nn (ix_ok (W (b := 985) (by decide) (by decide)) (by omega) (by omega)) ?_
    rw [r_nat2 (e := (ci 4) * x1) (m := 4 * n) (r_mul (by decide : (ci 4).toInt = 4) en (by omega) (by omega)) (by omega), r_nat2 (e := (c16 985) + x1) (m := 985 + n) (W (b := 985) (by decide) (by decide)) (by omega)]
    extract_lets +onlyGivenNames s9
    have a1 : ∀ j, j ≠ 89 → s9.1 j = s2.1 j := fun j hj => mu_rowP hj
    have a2 : ∀ k, k ≠ 985 + n → s9.1 89 k = s2.1 89 k := fun k hk => mu_cellP (Or.inr hk)
    have a3 : s9.1 89 (985 + n) = s.1 92 (4 * n) := (mu_sameP : s9.1 89 (985 + n) = s2.1 92 (4 * n)).trans (e92 _)
    clear_value s9
    refine ok_nn (ix_ok (F (i := 1) (by decide) (by decide)) (by omega) (by omega)) ?_
    refine ok_nn (ix_ok (W (b := 1001) (by decide) (by decide)) (by omega) (by omega)) ?_
    rw [r_nat2 (e := ((ci 4) * x1) + (ci 1)) (m := 4 * n + 1) (F (i := 1) (by decide) (by decide)) (by omega), r_nat2 (e := (c16 1001) + x1) (m := 1001 + n) (W (b := 1001) (by decide) (by decide)) (by omega)]
    extract_lets +onlyGivenNames s12
    have b1 : ∀ j, j ≠ 89 → s12.1 j = s9.1 j := fun j hj => mu_rowP hj
    have b2 : ∀ k, k ≠ 1001 + n → s12.1 89 k = s9.1 89 k := fun k hk => mu_cellP (Or.inr hk)
    have b3 : s12.1 89 (1001 + n) = s.1 92 (4 * n + 1) := (mu_sameP : s12.1 89 (1001 + n) = s9.1 92 (4 * n + 1)).trans ((congrFun (a1 92 (by decide)) _).trans (e92 _))
    clear_value s12
    refine ok_nn (ix_ok (F (i := 2) (by decide) (by decide)) (by omega) (by omega)) ?_
    refine ok_nn (ix_ok (W (b := 1017) (by decide) (by decide)) (by omega) (by omega)) ?_
    rw [r_nat2 (e := ((ci 4) * x1) + (ci 2)) (m := 4 * n + 2) (F (i := 2) (by decide) (by decide)) (by omega), r_nat2 (e := (c16 1017) + x1) (m := 1017 + n) (W (b := 1017) (by decide) (by decide)) (by omega)]
    extract_lets +onlyGivenNames s15
    have d1' : ∀ j, j ≠ 89 → s15.1 j = s12.1 j := fun j hj => mu_rowP hj
    have d2 : ∀ k, k ≠ 1017 + n → s15.1 89 k = s12.1 89 k := fun k hk => mu_cellP (Or.inr hk)
    have d3 : s15.1 89 (1017 + n) = s.1 92 (4 * n + 2) := (mu_sameP : s15.1 89 (1017 + n) = s12.1 92 (4 * n + 2)).trans ((congrFun (b1 92 (by decide)) _).trans ((congrFun (a1 92 (by decide)) _).trans (e92 _)))
    clear_value s15
    refine ok_nn (ix_ok (F (i := 3) (by decide) (by decide)) (by omega) (by omega)) ?_
    refine ok_nn (ix_ok (W (b := 1033) (by decide) (by decide)) (by omega) (by omega)) ?_
    rw [r_nat2 (e := (c16 1033) + x1) (m := 1033 + n) (W (b := 1033) (by decide) (by decide)) (by omega)]
    extract_lets +onlyGivenNames s18
    have f1 : ∀ j, j ≠ 89 → s18.1 j = s15.1 j := fun j hj => mu_rowP hj
    have f2 : ∀ k, k ≠ 1033 + n → s18.1 89 k = s15.1 89 k := fun k hk => mu_cellP (Or.inr hk)
    clear_value s18
    clear F W
    have all : ∀ k, k ≠ 985 + n → k ≠ 1001 + n → k ≠ 1017 + n → k ≠ 1033 + n → s18.1 89 k = s2.1 89 k := fun k h1 h2 h3 h4 => (f2 k h4).trans ((d2 k h3).trans ((b2 k h2).trans (a2 k h1)))
    have u6 : ∀ i : Nat, (i : Int) < (x1 + ci 1).toInt → s18.1 89 (985 + i) = s.1 92 (4 * i) ∧ s18.1 89 (1001 + i) = s.1 92 (4 * i + 1) ∧ s18.1 89 (1017 + i) = s.1 92 (4 * i + 2) := by
      intro i hi
      rw [t_up (by omega)] at hi
      by_cases q : i = n
      · subst q
        refine ⟨?_, ?_, ?_⟩
        · rw [f2 _ (by omega), d2 _ (by omega), b2 _ (by omega)]; exact a3
        · rw [f2 _ (by omega), d2 _ (by omega)]; exact b3
        · rw [f2 _ (by omega)]; exact d3
      · obtain ⟨y1, y2, y3⟩ := k6 i (by omega)
        exact ⟨(all _ (by omega) (by omega) (by omega) (by omega)).trans y1, (all _ (by omega) (by omega) (by omega) (by omega)).trans y2, (all _ (by omega) (by omega) (by omega) (by omega)).trans y3⟩
    exact ok_some (lp_inl ⟨up_0 (x := x1) k1 (by omega), up_le (x := x1) (by omega) (by omega), fun j hj => (f1 j hj).trans ((d1' j hj).trans ((b1 j hj).trans ((a1 j hj).trans (k3 j hj)))), fun k h1 h2 => (all k (by omega) (by omega) (by omega) (by omega)).trans (k4 k h1 h2), (all 117 (by omega) (by omega) (by omega) (by omega)).trans k5, u6⟩ (up_t (x := x1) (by omega)))
theorem T_X12_putsSigns {s : mG} (hI : IM s) (h0 : 0 ≤ (s.1 88 14).toInt) (h6 : (s.1 88 14).toInt ≤ 6) (hv : ∀ j : Nat, (j : Int) < 2 * (s.1 88 14).toInt → 1 ≤ (s.1 94 j).toInt ∧ (s.1 94 j).toInt ≤ 999) : ok (F_X12_putsSigns s) (fun τ => True ∧ RF15 s τ.2) := by
  unfold F_X12_putsSigns
  extract_lets +onlyGivenNames s1
  have r1 : ∀ j, j ≠ 89 → s1.1 j = s.1 j := fun j hj => mu_rowP hj
  have c1 : ∀ k, k ≠ 115 → s1.1 89 k = s.1 89 k := fun k hk => mu_cellP (Or.inr hk)
  have v1 : s1.1 89 115 = s.1 88 14 := mu_sameP
  clear_value s1
  unfold F_X12_putsSigns_L13
  refine ok_whl (fun v => 0 ≤ v.1.toInt ∧ v.1.toInt ≤ 12 ∧ (∀ j, j ≠ 89 → v.2.1 j = s.1 j) ∧ (∀ k, k ≠ 115 → ¬ (143 ≤ k ∧ k ≤ 154) → v.2.1 89 k = s.1 89 k) ∧ v.2.1 89 115 = s.1 88 14 ∧ (∀ i : Nat, (i : Int) < v.1.toInt → v.2.1 89 (143 + i) = s.1 94 i)) (fun v => mUp v.1) ⟨show 0 ≤ (ci 0).toInt by decide, show (ci 0).toInt ≤ 12 by decide, r1, fun k h1 _ => c1 k h1, v1, fun i (hi : (i : Int) < (ci 0).toInt) => by rw [show (ci 0).toInt = 0 by decide] at hi; omega⟩ (fun v hv => ?_)
  obtain ⟨x1, s2⟩ := v
  obtain ⟨q1, q2, q3, q4, q5, q6⟩ := hv
  have k1 : 0 ≤ x1.toInt := q1
  have k2 : x1.toInt ≤ 12 := q2
  have k3 : ∀ j, j ≠ 89 → s2.1 j = s.1 j := q3
  have k4 : ∀ k, k ≠ 115 → ¬ (143 ≤ k ∧ k ≤ 154) → s2.1 89 k = s.1 89 k := q4
  have k5 : s2.1 89 115 = s.1 88 14 := q5
  have k6 : ∀ i : Nat, (i : Int) < x1.toInt → s2.1 89 (143 + i) = s.1 94 i := q6
  clear q1 q2 q3 q4 q5 q6
  show ok (F_X12_putsSigns_B13 x1 s2) _
  unfold F_X12_putsSigns_B13
  have e14 : s2.1 88 14 = s.1 88 14 := congrFun (k3 88 (by decide)) 14
  rw [e14]
  refine ok_ite (fun c => ?_) (fun c => ?_)
  · have d1 := r_le (r_mul (by decide : (ci 2).toInt = 2) (rfl : (s.1 88 14).toInt = _) (by omega) (by omega)) (rfl : x1.toInt = _) c
    refine ok_b1r ?_
    unfold F_X12_putsSigns_L47
    refine ok_whl (fun v => 0 ≤ v.1.toInt ∧ (∀ j, j ≠ 89 → v.2.1 j = s.1 j) ∧ (∀ k, ¬ (39 ≤ k ∧ k ≤ 110) → v.2.1 89 k = s2.1 89 k)) (fun v => mUp v.1) ⟨show 0 ≤ (ci 0).toInt by decide, k3, fun _ _ => rfl⟩ (fun v hv => ?_)
    obtain ⟨x2, s3⟩ := v
    obtain ⟨q1, q3, q4⟩ := hv
    have m1 : 0 ≤ x2.toInt := q1
    have m3 : ∀ j, j ≠ 89 → s3.1 j = s.1 j := q3
    have m4 : ∀ k, ¬ (39 ≤ k ∧ k ≤ 110) → s3.1 89 k = s2.1 89 k := q4
    clear q1 q3 q4
    show ok (F_X12_putsSigns_B47 x2 s3) _
    unfold F_X12_putsSigns_B47
    refine ok_ite (fun c => ?_) (fun c => ?_)
    · unfold F_X12_forgets
      refine ok_b1 (ok_some (Q := fun s' => s' = (mu s3.1 88 3 (ci 0), s3.2)) rfl) (fun s5 hs5 => ?_)
      have row : ∀ j, j ≠ 88 → s5.1 j = s3.1 j := fun j hj => by rw [hs5]; exact mu_rowP hj
      have ce : ∀ k, k ≠ 3 → s5.1 88 k = s3.1 88 k := fun k hk => by rw [hs5]; exact mu_cellP (Or.inr hk)
      have e3 : s5.1 88 3 = ci 0 := by rw [hs5]; exact mu_sameP
      clear hs5
      have z : (ci 0).toInt = 0 := by decide
      have cell : ∀ k, k ≠ 115 → ¬ (143 ≤ k ∧ k ≤ 154) → ¬ (39 ≤ k ∧ k ≤ 110) → s5.1 89 k = s.1 89 k := fun k h1 h2 h3 => (congrFun (row 89 (by decide)) k).trans ((m4 k h3).trans (k4 k h1 h2))
      have e115 : s5.1 89 115 = s.1 88 14 := (congrFun (row 89 (by decide)) 115).trans ((m4 115 (by omega)).trans k5)
      have e143 : ∀ i : Nat, (i : Int) < x1.toInt → s5.1 89 (143 + i) = s.1 94 i := fun i hi => (congrFun (row 89 (by decide)) _).trans ((m4 _ (by omega)).trans (k6 i hi))
      refine ok_some (lp_inr ⟨trivial, ⟨⟨⟨?_, ?_, ?_, ?_, ?_, ?_⟩, fun j hj => (row j (by omega)).trans (m3 j (by omega)), fun j hj => cell j (by unfold SK at hj; omega) (by unfold SK at hj; omega) (by unfold SK at hj; omega)⟩, (ce 15 (by decide)).trans (congrFun (m3 88 (by decide)) 15)⟩⟩)
      · show WI (s5.1 89)
        obtain ⟨w1, w2, w3, w4, w5, w6, w7, w8, w9, w10, w11⟩ := hI.1
        refine ⟨by rw [cell _ (by omega) (by omega) (by omega)]; exact w1, by rw [e115]; exact ⟨h0, h6⟩, by rw [cell _ (by omega) (by omega) (by omega)]; exact w3, by rw [cell _ (by omega) (by omega) (by omega)]; exact w4, by rw [cell _ (by omega) (by omega) (by omega)]; exact w5, by rw [cell _ (by omega) (by omega) (by omega)]; exact w6, fun a ha => ?_, fun a ha hx => ?_, fun a ha hx => ?_, fun a ha hx => ?_, fun a ha hx => ?_⟩
        · rw [cell _ (by omega) (by omega) (by omega)]; exact w7 a ha
        · rw [e115] at hx; rw [e143 a (by omega)]; exact hv a hx
        · rw [cell _ (by omega) (by omega) (by omega)] at hx; rw [cell _ (by omega) (by omega) (by omega)]; exact w9 a ha hx
        · rw [cell _ (by omega) (by omega) (by omega)] at hx; rw [cell _ (by omega) (by omega) (by omega)]; exact w10 a ha hx
        · rw [cell _ (by omega) (by omega) (by omega)] at hx; exact LawOK_congr ha (fun j hj => cell j (by omega) (by omega) (by omega)) (w11 a ha hx)
      · show KI (s5.1 89 112).toInt (s5.1 89)
        rw [cell 112 (by omega) (by omega) (by omega)]
        exact KI_congr (fun j hj => cell j (by unfold kK at hj; omega) (by unfold kK at hj; omega) (by unfold kK at hj; omega)) hI.2.1
      · show s5.1 88 4 ≠ 0 → _
        rw [ce 4 (by decide), m3 88 (by decide), row 90 (by decide), m3 90 (by decide)]; exact hI.2.2.1
      · show 0 ≤ (s5.1 88 3).toInt ∧ (s5.1 88 3).toInt ≤ 6
        rw [e3, z]; omega
      · intro j _ hx
        replace hx : (j : Int) < (s5.1 88 3).toInt := hx
        rw [e3, z] at hx
        omega
      · show 0 ≤ (s5.1 88 15).toInt ∧ (s5.1 88 15).toInt ≤ 400
        rw [ce 15 (by decide), m3 88 (by decide)]; exact hI.2.2.2.2.2
    · have d2 := r_nle (by decide : (c8 72).toInt = 72) (rfl : x2.toInt = _) c
      refine ok_nn (ix_ok (r_add (by decide : (c8 39).toInt = 39) (rfl : x2.toInt = _) (by omega) (by omega)) (by omega) (by omega)) ?_
      rw [r_nat2 (e := (c8 39) + x2) (m := 39 + x2.toInt.toNat) (r_add (by decide : (c8 39).toInt = 39) (rfl : x2.toInt = _) (by omega) (by omega)) (by omega)]
      extract_lets +onlyGivenNames s7
      have g1 : ∀ j, j ≠ 89 → s7.1 j = s.1 j := fun j hj => (mu_rowP hj : s7.1 j = s3.1 j).trans (m3 j hj)
      have g2 : ∀ k, k ≠ 39 + x2.toInt.toNat → s7.1 89 k = s3.1 89 k := fun k hk => mu_cellP (Or.inr hk)
      clear_value s7
      exact ok_some (lp_inl ⟨up_0 (x := x2) m1 (by omega), g1, fun k hk => (g2 k (by omega)).trans (m4 k hk)⟩ (up_t (x := x2) (by omega)))
  · have d1 := r_nle (r_mul (by decide : (ci 2).toInt = 2) (rfl : (s.1 88 14).toInt = _) (by omega) (by omega)) (rfl : x1.toInt = _) c
    refine ok_nn (ix_ok (rfl : x1.toInt = _) (by omega) (by omega)) ?_
    refine ok_nn (ix_ok (r_add (by decide : (c16 143).toInt = 143) (rfl : x1.toInt = _) (by omega) (by omega)) (by omega) (by omega)) ?_
    rw [r_nat2 (e := (c16 143) + x1) (m := 143 + x1.toInt.toNat) (r_add (by decide : (c16 143).toInt = 143) (rfl : x1.toInt = _) (by omega) (by omega)) (by omega), t_nat]
    extract_lets +onlyGivenNames s10
    have g1 : ∀ j, j ≠ 89 → s10.1 j = s.1 j := fun j hj => (mu_rowP hj : s10.1 j = s2.1 j).trans (k3 j hj)
    have g0 : s10.1 89 (143 + x1.toInt.toNat) = s.1 94 x1.toInt.toNat := (mu_sameP : s10.1 89 (143 + x1.toInt.toNat) = s2.1 94 x1.toInt.toNat).trans (by rw [k3 94 (by decide)])
    have g2 : ∀ k, k ≠ 143 + x1.toInt.toNat → s10.1 89 k = s2.1 89 k := fun k hk => mu_cellP (Or.inr hk)
    clear_value s10
    have g4 : ∀ i : Nat, (i : Int) < (x1 + ci 1).toInt → s10.1 89 (143 + i) = s.1 94 i := by
      intro i hi
      rw [t_up (by omega)] at hi
      by_cases q : i = x1.toInt.toNat
      · subst q; exact g0
      · rw [g2 _ (by omega)]; exact k6 i (by omega)
    exact ok_some (lp_inl ⟨up_0 (x := x1) k1 (by omega), up_le (x := x1) (by omega) (by omega), g1, fun k h1 h2 => (g2 k (by omega)).trans (k4 k h1 h2), (g2 115 (by omega)).trans k5, g4⟩ (up_t (x := x1) (by omega)))
theorem IM_116 {s : mG} {v : Int32} (h : IM s) (hv : 0 ≤ v.toInt ∧ v.toInt ≤ 12) : IM (mu s.1 89 116 v, s.2) := by
  have e112 : (mu s.1 89 116 v, s.2).1 89 112 = s.1 89 112 := mu_cellP (by omega)
  refine IM_mk h ?_ ?_ e112 (mu_rowP (by decide)) (mu_rowP (by decide)) (mu_cellP (by omega)) (mu_cellP (by omega)) (mu_cellP (by omega))
  · obtain ⟨q1, q2, q3, q4, q5, q6, q7, q8, q9, q10, q11⟩ := h.1
    have c : ∀ j, j ≠ 116 → (mu s.1 89 116 v, s.2).1 89 j = s.1 89 j := fun j hj => mu_cellP (Or.inr hj)
    have cv : (mu s.1 89 116 v, s.2).1 89 116 = v := mu_sameP
    refine ⟨by rw [c _ (by omega)]; exact q1, by rw [c _ (by omega)]; exact q2, by rw [cv]; exact hv, by rw [c _ (by omega)]; exact q4, by rw [c _ (by omega)]; exact q5, by rw [c _ (by omega)]; exact q6, fun a ha => ?_, fun a ha hl => ?_, fun a ha hl => ?_, fun a ha hl => ?_, fun a ha hl => ?_⟩
    · rw [c _ (by omega)]; exact q7 a ha
    · rw [c _ (by omega)] at hl; rw [c _ (by omega)]; exact q8 a ha hl
    · rw [c _ (by omega)] at hl; rw [c _ (by omega)]; exact q9 a ha hl
    · rw [c _ (by omega)] at hl; rw [c _ (by omega)]; exact q10 a ha hl
    · rw [c _ (by omega)] at hl; exact LawOK_congr ha (fun j hj => c j (by omega)) (q11 a ha hl)
  · rw [e112]; exact KI_congr (fun j hj => mu_cellP (Or.inr (by unfold kK at hj; omega))) h.2.1
theorem T_X12_putsShifts {s : mG} (hI : IM s) (h0 : 0 ≤ (s.1 88 14).toInt) (h12 : (s.1 88 14).toInt ≤ 12) : ok (F_X12_putsShifts s) (fun τ => True ∧ RF15 s τ.2) := by
  unfold F_X12_putsShifts
  extract_lets +onlyGivenNames s1
  have h1 : RX s s1 := RX_mk (RX_refl hI) (IM_116 hI ⟨h0, h12⟩) (fun j hj => mu_rowP (by omega)) (mu_cellP (by omega)) (fun j hj => mu_cellP (by unfold SK at hj; omega))
  have e1 : s1.1 88 14 = s.1 88 14 := congrFun (mu_rowP (by decide)) 14
  clear_value s1
  unfold F_X12_putsShifts_L13
  refine ok_whl (fun v => 0 ≤ v.1.toInt ∧ RX s v.2 ∧ v.2.1 88 14 = s.1 88 14) (fun v => mUp v.1) ⟨show 0 ≤ (ci 0).toInt by decide, h1, e1⟩ (fun v hv => ?_)
  obtain ⟨x1, s2⟩ := v
  obtain ⟨q1, q2, q3⟩ := hv
  have k1 : 0 ≤ x1.toInt := q1
  have k2 : RX s s2 := q2
  have k3 : s2.1 88 14 = s.1 88 14 := q3
  clear q1 q2 q3
  show ok (F_X12_putsShifts_B13 x1 s2) _
  unfold F_X12_putsShifts_B13
  rw [k3]
  refine ok_ite (fun _ => ?_) (fun c => ?_)
  · refine ok_b1 (ok_rx k2 (T_X12_forgets k2.1.1)) (fun s4 (h4 : RX s s4) => ?_)
    exact ok_some (lp_inr ⟨trivial, RF_RX h4, h4.1.2.2⟩)
  · have d1 := r_nle (r_mul (by decide : (ci 4).toInt = 4) (rfl : (s.1 88 14).toInt = _) (by omega) (by omega)) (rfl : x1.toInt = _) c
    refine ok_nn (ix_ok (rfl : x1.toInt = _) (by omega) (by omega)) ?_
    refine ok_nn (ix_ok (r_add (by decide : (c16 155).toInt = 155) (rfl : x1.toInt = _) (by omega) (by omega)) (by omega) (by omega)) ?_
    extract_lets +onlyGivenNames s7
    have h7 : RX s s7 := RX_fe k2 (r_add (by decide : (c16 155).toInt = 155) (rfl : x1.toInt = _) (by omega) (by omega)) (by unfold fr kW kK SK; omega)
    have e7 : s7.1 88 14 = s2.1 88 14 := congrFun (mu_rowP (by decide)) 14
    clear_value s7
    exact ok_some (lp_inl ⟨up_0 (x := x1) k1 (by omega), h7, e7.trans k3⟩ (up_t (x := x1) (by omega)))
/-! the whole of a text -/
theorem RF_tr {s s' s2 : mG} (h : RF s s') (k : RF s' s2) : RF s s2 := ⟨k.1, fun j hj => (k.2.1 j hj).trans (h.2.1 j hj), fun j hj => (k.2.2 j hj).trans (h.2.2 j hj)⟩
theorem RF_RT {s s' : mG} (hI : IM s) (h : RT s s') : RF s s' := ⟨IM_RT h hI, fun j hj => h.1 j (by omega) (by omega), fun j _ => by rw [h.1 89 (by decide) (by decide)]⟩
theorem RF_15 {s s' : mG} (hI : IM s) (hs : s' = (mu s.1 88 15 (ci 0), s.2)) : RF s s' := by
  have row : ∀ j, j ≠ 88 → s'.1 j = s.1 j := fun j hj => by rw [hs]; exact mu_rowP hj
  have ce : ∀ k, k ≠ 15 → s'.1 88 k = s.1 88 k := fun k hk => by rw [hs]; exact mu_cellP (Or.inr hk)
  have e15 : s'.1 88 15 = ci 0 := by rw [hs]; exact mu_sameP
  clear hs
  exact ⟨IM_taped hI (fun j h1 _ => row j h1) (ce 3 (by decide)) (ce 4 (by decide)) (by rw [e15]; decide), fun j hj => row j (by omega), fun j _ => by rw [row 89 (by decide)]⟩
theorem text_60 {x1 y0 : Int32} {s : mG} (hI : IM s) (h0 : ¬ y0 = 0 → x1 = 0 → LSx s) (h1 : ¬ y0 = 0 → ¬ x1 = 0 → RSx x1 s) : ok (F_X12_text_60 x1 y0 s) (fun τ => RF s τ.2 ∧ τ.2.1 88 15 = ci 0) := by
  unfold F_X12_text_60
  extract_lets +onlyGivenNames s16
  have h16 : RF s s16 := RF_15 hI rfl
  have row : ∀ j, j ≠ 88 → s16.1 j = s.1 j := fun j hj => mu_rowP hj
  have ce : ∀ k, k ≠ 15 → s16.1 88 k = s.1 88 k := fun k hk => mu_cellP (Or.inr hk)
  have e15 : s16.1 88 15 = ci 0 := mu_sameP
  clear_value s16
  have fin : ∀ (o : Option (Int32 × mG)), ok o (fun τ => True ∧ RF15 s16 τ.2) → ok (b2 o fun v s' => some (v, s')) (fun τ => RF s τ.2 ∧ τ.2.1 88 15 = ci 0) := by
    intro o ho
    refine ok_b2 ho (fun v s' hq => ?_)
    have q : RF15 s16 s' := hq.2
    exact ok_some ⟨RF_tr h16 q.1, q.2.trans e15⟩
  refine ok_ite (fun _ => ?_) (fun cy => ?_)
  · extract_lets +onlyGivenNames s18
    have r18 : RT s16 s18 := RT_mu (by omega)
    clear_value s18
    extract_lets +onlyGivenNames s19
    have r19 : RT s16 s19 := RT_mu1 r18 (by omega)
    clear_value s19
    exact ok_some ⟨RF_tr h16 (RF_RT h16.1 r19), r19.2.2.2.trans e15⟩
  · refine ok_ite (fun cx => ?_) (fun cx => ?_)
    · obtain ⟨w1, w2, w3, w4⟩ := h0 cy cx
      have e13 := ce 13 (by decide)
      have e12 := ce 12 (by decide)
      have a1 := w1.2.1
      have a2 := w1.2.2
      have a3 := w1.1.1
      have a4 := w1.1.2.2.1
      have a5 := w1.1.2.2.2.1
      refine fin _ (T_X12_putsLaw h16.1 (by rw [e13]; exact a1) (by rw [e13]; omega) (by rw [e12]; exact w2) (by rw [e12]; exact w3) (fun i hi => ?_))
      rw [e12] at hi
      exact LO_mono (w4 i hi) (by rw [e13]; omega) (fun k _ => by rw [row 92 (by decide)]) (fun j _ => by rw [row 93 (by decide)])
    · obtain ⟨w1, w2, w3, w4⟩ := h1 cy cx
      have e14 := ce 14 (by decide)
      refine ok_ite (fun c1 => ?_) (fun _ => ?_)
      · obtain ⟨u1, u2⟩ := w4 c1
        refine fin _ (T_X12_putsSigns h16.1 (by rw [e14]; exact w2) (by rw [e14]; exact u1) (fun j hj => ?_))
        rw [e14] at hj
        rw [row 94 (by decide)]
        exact u2 j hj
      · exact fin _ (T_X12_putsShifts h16.1 (by rw [e14]; exact w2) (by rw [e14]; exact w3))
theorem T_X12_text {a1 : Int32} {s : mG} (hI : IM s) : ok (F_X12_text a1 s) (fun τ => RF s τ.2 ∧ τ.2.1 88 15 = ci 0) := by
  unfold F_X12_text
  extract_lets +onlyGivenNames s1
  have r1 : RT s s1 := RT_mu (by omega)
  clear_value s1
  extract_lets +onlyGivenNames s2
  have r2 : RT s s2 := RT_mu1 r1 (by omega)
  clear_value s2
  have I2 : IM s2 := IM_RT r2 hI
  have f2 : RF s s2 := RF_RT hI r2
  rw [F_isIn, b1_some]
  refine ok_ite (fun _ => ?_) (fun _ => ?_)
  · extract_lets +onlyGivenNames s6
    have h6 : RF s2 s6 := RF_15 I2 rfl
    have e6 : s6.1 88 15 = ci 0 := mu_sameP
    clear_value s6
    exact ok_some ⟨RF_tr f2 h6, e6⟩
  · extract_lets +onlyGivenNames s7
    have r7 : RT s2 s7 := RT_mu (by omega)
    clear_value s7
    extract_lets +onlyGivenNames s8
    have r8 : RT s2 s8 := RT_mu1 r7 (by omega)
    have e16 : s8.1 88 16 = ci 0 := mu_sameP
    clear_value s8
    extract_lets +onlyGivenNames s9
    have r9 : RT s2 s9 := RT_mu1 r8 (by omega)
    have f16 : s9.1 88 16 = ci 0 := (mu_cellP (by omega) : s9.1 88 16 = s8.1 88 16).trans e16
    have f11 : s9.1 88 11 = a1 := mu_sameP
    clear_value s9
    have I9 : IM s9 := IM_RT r9 I2
    have t9 := im_tape I9
    have z : (ci 0).toInt = 0 := by decide
    have P9 : P0 s9 := ⟨t9.2, by rw [f16, z]; omega, by rw [f16, z]; exact t9.1⟩
    clear z
    refine ok_b1 (T_X12_next0 P9) (fun s11 n11 => ?_)
    have r11 : RT s2 s11 := RT_tr r9 (RT_RE (RE_RN n11.1))
    have I11 : IM s11 := IM_RT r11 I2
    have f11 : s11.1 88 11 = a1 := (n11.1.2 11 (by decide) (by decide) (by decide) (by decide)).trans f11
    have F11 : RF s s11 := RF_tr f2 (RF_RT I2 r11)
    refine ok_ite (fun c => ?_) (fun c => ?_)
    · refine ok_b2 (T_X12_readsLaw n11.2.1) (fun v15 s14 hq => ?_)
      obtain ⟨_, q2, q3⟩ := hq
      have k2 : RT s11 s14 := q2
      have k3 : ¬ v15 = 0 → LSx s14 := q3
      clear q2 q3
      refine ok_mono (text_60 (IM_RT k2 I11) (fun h _ => k3 h) (fun _ h => absurd c h)) (fun τ q => ⟨RF_tr (RF_tr F11 (RF_RT I11 k2)) q.1, q.2⟩)
    · refine ok_b2 (T_X12_readsRows n11.2.1) (fun v33 s32 hq => ?_)
      obtain ⟨_, q2, q3⟩ := hq
      have k2 : RT s11 s32 := q2
      have k3 : ¬ v33 = 0 → RSx (s11.1 88 11) s32 := q3
      clear q2 q3
      rw [f11] at k3
      refine ok_mono (text_60 (IM_RT k2 I11) (fun _ h => absurd h c) (fun h _ => k3 h)) (fun τ q => ⟨RF_tr (RF_tr F11 (RF_RT I11 k2)) q.1, q.2⟩)
