noncomputable section
theorem T_X12_saysIn {a1 : Int32} {a2 : Int32} {a3 : Int32} {a4 : Int32} {a5 : Int32} {s : mG} (h_a2 : 0 ≤ a2.toInt ∧ a2.toInt < 12) (hI : IM s) : ok (F_X12_saysIn a1 a2 a3 a4 a5 s) (fun τ => (0 ≤ τ.1.toInt ∧ τ.1.toInt ≤ 1000) ∧ RM s τ.2) := by
  have hR : RM s s := RM_refl hI
  unfold F_X12_saysIn
  extract_lets +onlyGivenNames s_1
  have hs_2 : RM s s_1 := (RM_mw hR (by decide))
  clear_value s_1
  refine ok_nn (ix_ok (r_add (by decide : (c8 119).toInt = 119) (rfl : (a2).toInt = _) (by omega) (by omega)) (by omega) (by omega)) ?_
  extract_lets +onlyGivenNames s_3
  have hs_4 : RM s s_3 := (RM_mw hs_2 (by decide))
  clear_value s_3
  refine ok_nn (ix_ok (r_add (by decide : (c16 131).toInt = 131) (rfl : (a2).toInt = _) (by omega) (by omega)) (by omega) (by omega)) ?_
  extract_lets +onlyGivenNames s_5
  have hs_6 : RM s s_5 := (RM_mw hs_4 (by decide))
  clear_value s_5
  extract_lets +onlyGivenNames s_7
  have hs_8 : RM s s_7 := (RM_mw hs_6 (by decide))
  clear_value s_7
  extract_lets +onlyGivenNames s_9
  have hs_10 : RM s s_9 := (RM_mw hs_8 (by decide))
  clear_value s_9
  extract_lets +onlyGivenNames s_11
  have hs_12 : RM s s_11 := (RM_mw hs_10 (by decide))
  clear_value s_11
  extract_lets +onlyGivenNames s_13
  have hs_14 : RM s s_13 := (RM_mw hs_12 (by decide))
  clear_value s_13
  refine ok_b1 (T_X12_isOnBoard ⟨by omega, by omega⟩ hs_14.1) (fun v_15 (hv_16 : PB v_15) => ?_)
  refine ok_ite (fun h_17 => ?_) (fun h_18 => ?_)
  · have hc_19 := r_eq (rfl : (v_15).toInt = _) (by decide : (0 : Int32).toInt = 0) h_17
    unfold F_X12_saysIn_100
    refine ok_nn (ix_ok (by decide : (c8 8).toInt = 8) (by omega) (by omega)) ?_
    extract_lets +onlyGivenNames s_20
    have hs_21 : RM s s_20 := (RM_mw hs_14 (by decide))
    clear_value s_20
    extract_lets +onlyGivenNames s_22
    have hs_23 : RM s s_22 := (RM_mw hs_21 (by decide))
    clear_value s_22
    unfold F_X12_saysIn_L113
    refine ok_whl (fun v => a1 = v.1 ∧ a2 = v.2.1 ∧ RM s v.2.2.2 ∧ 0 ≤ (v.2.2.1).toInt) (fun v => mUp v.2.2.1) ⟨rfl, rfl, hs_23, (show 0 ≤ (ci 0).toInt by rw [((by decide : (ci 0).toInt = 0) : (ci 0).toInt = 0)]; omega)⟩ (fun v hv => ?_)
    obtain ⟨x_31, x_32, x_33, s_34⟩ := v
    obtain ⟨rfl, rfl, rhs_35, rhn_36⟩ := hv
    have hs_35 : RM s s_34 := rhs_35
    have hn_36 : 0 ≤ x_33.toInt := rhn_36
    clear rhs_35 rhn_36
    show ok (F_X12_saysIn_B113 a1 a2 x_33 s_34) _
    unfold F_X12_saysIn_B113
    refine ok_ite (fun h_37 => ?_) (fun h_38 => ?_)
    · have hk_39 := im_117 hs_35.1
      have hk_40 := rm_k 89 117 hs_35 (by decide)
      have hc_41 := r_le (rfl : (s_34.1 89 117).toInt = _) (rfl : (x_33).toInt = _) h_37
      refine ok_b1 (T_X12_without ⟨by omega, by omega⟩ hs_35.1) (fun v_42 (hv_43 : 0 ≤ v_42.toInt ∧ v_42.toInt ≤ 1000) => ?_)
      have hz_44 : 0 ≤ v_42.toInt ∧ v_42.toInt ≤ 1000 := ⟨by omega, by omega⟩
      exact ok_some (lp_inr (⟨hz_44, hs_35⟩))
    · have hk_45 := im_117 hs_35.1
      have hk_46 := rm_k 89 117 hs_35 (by decide)
      have hc_47 := r_nle (rfl : (s_34.1 89 117).toInt = _) (rfl : (x_33).toInt = _) h_38
      refine ok_nn (ix_ok (r_add (by decide : (c16 1033).toInt = 1033) (rfl : (x_33).toInt = _) (by omega) (by omega)) (by omega) (by omega)) ?_
      refine ok_ite (fun h_48 => ?_) (fun h_49 => ?_)
      · have hk_50 := im_117 hR.1
        refine ok_b2 (ok_rm2 (C := fun (v : Int32) => PB v) hs_35 (T_X12_isSo ⟨by omega, by omega⟩ hs_35.1)) (fun v_51 s_52 (hq : (PB v_51) ∧ RM s s_52) => ?_)
        obtain ⟨hv_54, hs_53⟩ := hq
        refine ok_ite (fun h_55 => ?_) (fun h_56 => ?_)
        · have hc_57 := r_eq (rfl : (v_51).toInt = _) (by decide : (0 : Int32).toInt = 0) h_55
          unfold F_X12_saysIn_187
          exact ok_some (lp_inl ⟨rfl, rfl, hs_53, (up_0 (x := x_33) (by omega) (by omega))⟩ (up_t (x := x_33) (by omega)))
        · have hc_58 := r_ne (rfl : (v_51).toInt = _) (by decide : (0 : Int32).toInt = 0) h_56
          refine ok_nn (ix_ok (r_add (by decide : (c16 985).toInt = 985) (rfl : (x_33).toInt = _) (by omega) (by omega)) (by omega) (by omega)) ?_
          refine ok_nn (ix_ok (r_add (by decide : (c16 1001).toInt = 1001) (rfl : (x_33).toInt = _) (by omega) (by omega)) (by omega) (by omega)) ?_
          have hk_59 := im_117 hs_53.1
          have hk_60 := rm_k 89 117 hs_53 (by decide)
          refine ok_b2 (ok_rm2 (C := fun (v : Int32) => True) hs_53 (T_X12_comesTo (law_from hs_53.1 (by omega) (by omega)) hs_53.1)) (fun v_61 s_62 (hq : (True) ∧ RM s s_62) => ?_)
          obtain ⟨hv_64, hs_63⟩ := hq
          refine ok_b1 (T_X12_lesser (by decide : (c16 1000).toInt = 1000) hs_63.1) (fun v_65 (hv_66 : v_65.toInt ≤ 1000) => ?_)
          refine ok_b1 (T_X12_greater (by decide : (ci 0).toInt = 0) hs_63.1) (fun v_67 (hv_68 : 0 ≤ v_67.toInt ∧ (v_67.toInt = 0 ∨ v_67.toInt = v_65.toInt)) => ?_)
          have hz_69 : 0 ≤ v_67.toInt ∧ v_67.toInt ≤ 1000 := ⟨by omega, by omega⟩
          exact ok_some (lp_inr (⟨hz_69, hs_63⟩))
      · unfold F_X12_saysIn_187
        exact ok_some (lp_inl ⟨rfl, rfl, hs_35, (up_0 (x := x_33) (by omega) (by omega))⟩ (up_t (x := x_33) (by omega)))
  · have hc_70 := r_ne (rfl : (v_15).toInt = _) (by decide : (0 : Int32).toInt = 0) h_18
    unfold F_X12_saysIn_100
    refine ok_nn (ix_ok (by decide : (c8 8).toInt = 8) (by omega) (by omega)) ?_
    extract_lets +onlyGivenNames s_71
    have hs_72 : RM s s_71 := (RM_mw hs_14 (by decide))
    clear_value s_71
    extract_lets +onlyGivenNames s_73
    have hs_74 : RM s s_73 := (RM_mw hs_72 (by decide))
    clear_value s_73
    unfold F_X12_saysIn_L113
    refine ok_whl (fun v => a1 = v.1 ∧ a2 = v.2.1 ∧ RM s v.2.2.2 ∧ 0 ≤ (v.2.2.1).toInt) (fun v => mUp v.2.2.1) ⟨rfl, rfl, hs_74, (show 0 ≤ (ci 0).toInt by rw [((by decide : (ci 0).toInt = 0) : (ci 0).toInt = 0)]; omega)⟩ (fun v hv => ?_)
    obtain ⟨x_75, x_76, x_77, s_78⟩ := v
    obtain ⟨rfl, rfl, rhs_79, rhn_80⟩ := hv
    have hs_79 : RM s s_78 := rhs_79
    have hn_80 : 0 ≤ x_77.toInt := rhn_80
    clear rhs_79 rhn_80
    show ok (F_X12_saysIn_B113 a1 a2 x_77 s_78) _
    unfold F_X12_saysIn_B113
    refine ok_ite (fun h_81 => ?_) (fun h_82 => ?_)
    · have hk_83 := im_117 hs_79.1
      have hk_84 := rm_k 89 117 hs_79 (by decide)
      have hc_85 := r_le (rfl : (s_78.1 89 117).toInt = _) (rfl : (x_77).toInt = _) h_81
      refine ok_b1 (T_X12_without ⟨by omega, by omega⟩ hs_79.1) (fun v_86 (hv_87 : 0 ≤ v_86.toInt ∧ v_86.toInt ≤ 1000) => ?_)
      have hz_88 : 0 ≤ v_86.toInt ∧ v_86.toInt ≤ 1000 := ⟨by omega, by omega⟩
      exact ok_some (lp_inr (⟨hz_88, hs_79⟩))
    · have hk_89 := im_117 hs_79.1
      have hk_90 := rm_k 89 117 hs_79 (by decide)
      have hc_91 := r_nle (rfl : (s_78.1 89 117).toInt = _) (rfl : (x_77).toInt = _) h_82
      refine ok_nn (ix_ok (r_add (by decide : (c16 1033).toInt = 1033) (rfl : (x_77).toInt = _) (by omega) (by omega)) (by omega) (by omega)) ?_
      refine ok_ite (fun h_92 => ?_) (fun h_93 => ?_)
      · have hk_94 := im_117 hR.1
        refine ok_b2 (ok_rm2 (C := fun (v : Int32) => PB v) hs_79 (T_X12_isSo ⟨by omega, by omega⟩ hs_79.1)) (fun v_95 s_96 (hq : (PB v_95) ∧ RM s s_96) => ?_)
        obtain ⟨hv_98, hs_97⟩ := hq
        refine ok_ite (fun h_99 => ?_) (fun h_100 => ?_)
        · have hc_101 := r_eq (rfl : (v_95).toInt = _) (by decide : (0 : Int32).toInt = 0) h_99
          unfold F_X12_saysIn_187
          exact ok_some (lp_inl ⟨rfl, rfl, hs_97, (up_0 (x := x_77) (by omega) (by omega))⟩ (up_t (x := x_77) (by omega)))
        · have hc_102 := r_ne (rfl : (v_95).toInt = _) (by decide : (0 : Int32).toInt = 0) h_100
          refine ok_nn (ix_ok (r_add (by decide : (c16 985).toInt = 985) (rfl : (x_77).toInt = _) (by omega) (by omega)) (by omega) (by omega)) ?_
          refine ok_nn (ix_ok (r_add (by decide : (c16 1001).toInt = 1001) (rfl : (x_77).toInt = _) (by omega) (by omega)) (by omega) (by omega)) ?_
          have hk_103 := im_117 hs_97.1
          have hk_104 := rm_k 89 117 hs_97 (by decide)
          refine ok_b2 (ok_rm2 (C := fun (v : Int32) => True) hs_97 (T_X12_comesTo (law_from hs_97.1 (by omega) (by omega)) hs_97.1)) (fun v_105 s_106 (hq : (True) ∧ RM s s_106) => ?_)
          obtain ⟨hv_108, hs_107⟩ := hq
          refine ok_b1 (T_X12_lesser (by decide : (c16 1000).toInt = 1000) hs_107.1) (fun v_109 (hv_110 : v_109.toInt ≤ 1000) => ?_)
          refine ok_b1 (T_X12_greater (by decide : (ci 0).toInt = 0) hs_107.1) (fun v_111 (hv_112 : 0 ≤ v_111.toInt ∧ (v_111.toInt = 0 ∨ v_111.toInt = v_109.toInt)) => ?_)
          have hz_113 : 0 ≤ v_111.toInt ∧ v_111.toInt ≤ 1000 := ⟨by omega, by omega⟩
          exact ok_some (lp_inr (⟨hz_113, hs_107⟩))
      · unfold F_X12_saysIn_187
        exact ok_some (lp_inl ⟨rfl, rfl, hs_79, (up_0 (x := x_77) (by omega) (by omega))⟩ (up_t (x := x_77) (by omega)))
theorem T_X12_saysNow {a1 : Int32} {a2 : Int32} {s : mG} (h_a2 : 0 ≤ a2.toInt ∧ a2.toInt < 12) (hI : IM s) : ok (F_X12_saysNow a1 a2 s) (fun τ => (0 ≤ τ.1.toInt ∧ τ.1.toInt ≤ 1000) ∧ RM s τ.2) := by
  have hR : RM s s := RM_refl hI
  unfold F_X12_saysNow
  refine ok_nn (ix_ok (r_add (by decide : (c8 27).toInt = 27) (rfl : (a2).toInt = _) (by omega) (by omega)) (by omega) (by omega)) ?_
  have hk_1 := im_112 hR.1
  refine ok_b2 (ok_rm2 (C := fun (v : Int32) => 0 ≤ v.toInt ∧ v.toInt ≤ 1000) hR (T_X12_saysIn ⟨by omega, by omega⟩ hR.1)) (fun v_2 s_3 (hq : (0 ≤ v_2.toInt ∧ v_2.toInt ≤ 1000) ∧ RM s s_3) => ?_)
  obtain ⟨hv_5, hs_4⟩ := hq
  have hz_6 : 0 ≤ v_2.toInt ∧ v_2.toInt ≤ 1000 := ⟨by omega, by omega⟩
  exact ok_some ⟨hz_6, hs_4⟩
theorem T_X12_keyOn {s : mG} {a1 : Int32} (hI : IM s) : ok (F_X12_keyOn s a1) (fun v => v = ci (-1) → ∀ a : Nat, (a : Int) < (s.1 89 112).toInt → s.1 89 (15 + a) ≠ a1) := by
  have i := im_112 hI
  unfold F_X12_keyOn F_X12_keyOn_L2
  refine ok_whl (fun v => a1 = v.1 ∧ 0 ≤ v.2.toInt ∧ ∀ a : Nat, (a : Int) < v.2.toInt → s.1 89 (15 + a) ≠ a1) (fun v => mUp v.2) ⟨rfl, show 0 ≤ (ci 0).toInt by decide, fun a (ha : (a : Int) < (ci 0).toInt) => by rw [show (ci 0).toInt = 0 by decide] at ha; omega⟩ (fun v hv => ?_)
  obtain ⟨x1, x2⟩ := v
  obtain ⟨rfl, r0, rq⟩ := hv
  have h0 : 0 ≤ x2.toInt := r0
  have hq : ∀ a : Nat, (a : Int) < x2.toInt → s.1 89 (15 + a) ≠ a1 := rq
  show ok (F_X12_keyOn_B2 s a1 x2) _
  unfold F_X12_keyOn_B2
  refine ok_ite (fun h => ?_) (fun h => ?_)
  · have h2 := r_le (rfl : (s.1 89 112).toInt = _) (rfl : x2.toInt = _) h
    exact ok_some (lp_inr (fun _ a ha => hq a (by omega)))
  · have h2 := r_nle (rfl : (s.1 89 112).toInt = _) (rfl : x2.toInt = _) h
    refine ok_nn (ix_ok (r_add (by decide : (c8 15).toInt = 15) rfl (by omega) (by omega)) (by omega) (by omega)) ?_
    rw [r_ix (b := 15) (by decide) h0 (by omega) (by decide)]
    refine ok_ite (fun h3 => ?_) (fun h3 => ?_)
    · refine ok_some (lp_inr (fun w => ?_))
      have w2 : x2.toInt = -1 := by rw [show x2 = ci (-1) from w]; decide
      omega
    · have hn : ∀ a : Nat, (a : Int) < (x2 + ci 1).toInt → s.1 89 (15 + a) ≠ a1 := by
        intro a ha
        rw [t_up (by omega)] at ha
        by_cases e : a = x2.toInt.toNat
        · rw [e]; exact h3
        · exact hq a (by omega)
      exact ok_some (lp_inl ⟨rfl, up_0 h0 (by omega), hn⟩ (up_t (by omega)))
theorem T_X12_clerkAt {s : mG} {a1 : Int32} (hI : IM s) : ok (F_X12_clerkAt s a1) (fun (v : Int32) => True) := by
  have hR : RM s s := RM_refl hI
  unfold F_X12_clerkAt
  unfold F_X12_clerkAt_L2
  refine ok_whl (fun v => a1 = v.1 ∧ 0 ≤ (v.2).toInt) (fun v => mUp v.2) ⟨rfl, (show 0 ≤ (ci 0).toInt by rw [((by decide : (ci 0).toInt = 0) : (ci 0).toInt = 0)]; omega)⟩ (fun v hv => ?_)
  obtain ⟨x_2, x_3⟩ := v
  obtain ⟨rfl, rhn_4⟩ := hv
  have hn_4 : 0 ≤ x_3.toInt := rhn_4
  clear rhn_4
  show ok (F_X12_clerkAt_B2 s a1 x_3) _
  unfold F_X12_clerkAt_B2
  refine ok_ite (fun h_5 => ?_) (fun h_6 => ?_)
  · have hk_7 := im_116 hR.1
    have hc_8 := r_le (rfl : (s.1 89 116).toInt = _) (rfl : (x_3).toInt = _) h_5
    exact ok_some (lp_inr (trivial))
  · have hk_9 := im_116 hR.1
    have hc_10 := r_nle (rfl : (s.1 89 116).toInt = _) (rfl : (x_3).toInt = _) h_6
    extract_lets +onlyGivenNames v_11
    have he_12 : v_11.toInt = (155 + (4 * (x_3).toInt)) := (r_add (by decide : (c16 155).toInt = 155) (r_mul (by decide : (ci 4).toInt = 4) (rfl : (x_3).toInt = _) (by omega) (by omega)) (by omega) (by omega))
    clear_value v_11
    refine ok_nn (ix_ok (r_add he_12 (by decide : (ci 3).toInt = 3) (by omega) (by omega)) (by omega) (by omega)) ?_
    refine ok_ite (fun h_13 => ?_) (fun h_14 => ?_)
    · refine ok_nn (ix_ok (r_add he_12 (by decide : (ci 1).toInt = 1) (by omega) (by omega)) (by omega) (by omega)) ?_
      refine ok_nn (ix_ok (r_add he_12 (by decide : (ci 2).toInt = 2) (by omega) (by omega)) (by omega) (by omega)) ?_
      refine ok_ite (fun h_15 => ?_) (fun h_16 => ?_)
      · unfold F_X12_clerkAt_75
        exact ok_some (lp_inl ⟨rfl, (up_0 (x := x_3) (by omega) (by omega))⟩ (up_t (x := x_3) (by omega)))
      · refine ok_nn (ix_ok he_12 (by omega) (by omega)) ?_
        exact ok_some (lp_inr (trivial))
    · unfold F_X12_clerkAt_75
      exact ok_some (lp_inl ⟨rfl, (up_0 (x := x_3) (by omega) (by omega))⟩ (up_t (x := x_3) (by omega)))
theorem l_add {a b : Int64} {m n : Int} (ha : a.toInt = m) (hb : b.toInt = n) (h1 : -9223372036854775808 ≤ m + n) (h2 : m + n < 9223372036854775808) : (a + b).toInt = m + n := by
  subst ha; subst hb
  rw [Int64.toInt_add]; exact Int.bmod_eq_of_le (by omega) (by omega)
theorem l_sub {a b : Int64} {m n : Int} (ha : a.toInt = m) (hb : b.toInt = n) (h1 : -9223372036854775808 ≤ m - n) (h2 : m - n < 9223372036854775808) : (a - b).toInt = m - n := by
  subst ha; subst hb
  rw [Int64.toInt_sub]; exact Int.bmod_eq_of_le (by omega) (by omega)
theorem l_mul {a b : Int64} {m n : Int} (ha : a.toInt = m) (hb : b.toInt = n) (h1 : -9223372036854775808 ≤ m * n) (h2 : m * n < 9223372036854775808) : (a * b).toInt = m * n := by
  subst ha; subst hb
  rw [Int64.toInt_mul]; exact Int.bmod_eq_of_le (by omega) (by omega)
theorem l_div {a b : Int64} {m n : Int} (ha : a.toInt = m) (hb : b.toInt = n) (h0 : 0 ≤ m) (h1 : 0 < n) (h2 : m < 9223372036854775808) : (a / b).toInt = m / n := by
  subst ha; subst hb
  have hd : a.toInt / b.toInt ≤ a.toInt := Int.ediv_le_self _ h0
  have hp : 0 ≤ a.toInt / b.toInt := Int.ediv_nonneg h0 (by omega)
  rw [Int64.toInt_div, Int.tdiv_eq_ediv_of_nonneg h0]
  exact Int.bmod_eq_of_le (by omega) (by omega)
theorem T_X12_byA {s : mG} {a1 a2 a3 : Int64} (h1 : 0 ≤ a1.toInt ∧ a1.toInt ≤ 1000000) (h2 : 1 ≤ a2.toInt ∧ a2.toInt ≤ 999) (h3 : 1 ≤ a3.toInt ∧ a3.toInt ≤ 999) (hI : IM s) : ok (F_X12_byA s a1 a2 a3) (fun v => 0 ≤ v.toInt ∧ v.toInt ≤ 1000000) := by
  have cm : (cl 1000000).toInt = 1000000 := by decide
  have p1 : a1.toInt * 1 ≤ a1.toInt * a2.toInt := Int.mul_le_mul_of_nonneg_left h2.1 h1.1
  have p2 : a1.toInt * a2.toInt ≤ a1.toInt * 999 := Int.mul_le_mul_of_nonneg_left h2.2 h1.1
  have p3 : (1000000 - a1.toInt) * 1 ≤ (1000000 - a1.toInt) * a3.toInt := Int.mul_le_mul_of_nonneg_left h3.1 (by omega)
  have p4 : (1000000 - a1.toInt) * a3.toInt ≤ (1000000 - a1.toInt) * 999 := Int.mul_le_mul_of_nonneg_left h3.2 (by omega)
  have eA := l_mul (rfl : a1.toInt = _) (rfl : a2.toInt = _) (by omega) (by omega)
  have eM := l_sub cm (rfl : a1.toInt = _) (by omega) (by omega)
  have eB := l_mul eM (rfl : a3.toInt = _) (by omega) (by omega)
  generalize a1.toInt * a2.toInt = A at *
  generalize (1000000 - a1.toInt) * a3.toInt = B at *
  have eS := l_add eA eB (by omega) (by omega)
  have eN := l_mul cm eA (by omega) (by omega)
  have eD := l_div eN eS (by omega) (by omega) (by omega)
  unfold F_X12_byA
  refine ok_nn (fun q => ?_) ?_
  · rw [q] at eS
    rw [show (0 : Int64).toInt = 0 by decide] at eS
    omega
  · refine ok_some ?_
    rw [eD]
    exact ⟨Int.ediv_nonneg (by omega) (by omega), Int.ediv_le_of_le_mul (by omega) (by omega)⟩
theorem i64_r {x : Int32} {m n : Int} (h : m ≤ x.toInt ∧ x.toInt ≤ n) : m ≤ x.toInt64.toInt ∧ x.toInt64.toInt ≤ n := by rw [Int32.toInt_toInt64]; exact h
theorem s1000 {x : Int32} (h : 1 ≤ x.toInt ∧ x.toInt ≤ 999) : 1 ≤ ((c16 1000) - x).toInt ∧ ((c16 1000) - x).toInt ≤ 999 := by
  rw [r_sub (by decide : (c16 1000).toInt = 1000) (rfl : x.toInt = _) (by omega) (by omega)]
  omega
theorem say_k {x : Int32} (h : 0 ≤ x.toInt ∧ x.toInt ≤ 1000) : 0 ≤ (((c16 1000) * x).toInt64).toInt ∧ (((c16 1000) * x).toInt64).toInt ≤ 1000000 := by
  refine i64_r ?_
  rw [r_mul (by decide : (c16 1000).toInt = 1000) (rfl : x.toInt = _) (by omega) (by omega)]
  omega
end
