noncomputable section
theorem T_X12_isCost {s : mG} {a1 : Int32} (hI : IM s) : ok (F_X12_isCost s a1) (fun (v : Int32) => PB v) := by
  have hR : RM s s := RM_refl hI
  unfold F_X12_isCost
  refine ok_b1 (T_X12_isIn hR.1) (fun v_1 (hv_2 : QI v_1 a1 (ci 0) (c16 9999)) => ?_)
  refine ok_pp hv_2.1 ?_
  exact ok_some hv_2.1
theorem T_X12_say {a1 : Int32} {a2 : Int32} {a3 : Int32} {s : mG} (hI : IM s) : ok (F_X12_say a1 a2 a3 s) (fun τ => (True) ∧ RM s τ.2) := by
  have hR : RM s s := RM_refl hI
  unfold F_X12_say
  refine ok_b1 (T_X12_isGuest hR.1) (fun v_1 (hv_2 : QG v_1 a1 (s.1 89 112)) => ?_)
  refine ok_ite (fun h_3 => ?_) (fun h_4 => ?_)
  · have hc_5 := r_eq (rfl : (v_1).toInt = _) (by decide : (0 : Int32).toInt = 0) h_3
    unfold F_X12_say_22
    exact ok_some ⟨trivial, hR⟩
  · have hc_6 := r_ne (rfl : (v_1).toInt = _) (by decide : (0 : Int32).toInt = 0) h_4
    have hk_7 := im_112 hR.1
    have hk_8 := im_115 hR.1
    have hf_9 := hv_2.2 h_4
    refine ok_b1 (T_X12_isCost hR.1) (fun v_10 (hv_11 : PB v_10) => ?_)
    refine ok_ite (fun h_12 => ?_) (fun h_13 => ?_)
    · have hc_14 := r_eq (rfl : (v_10).toInt = _) (by decide : (0 : Int32).toInt = 0) h_12
      unfold F_X12_say_22
      exact ok_some ⟨trivial, hR⟩
    · have hc_15 := r_ne (rfl : (v_10).toInt = _) (by decide : (0 : Int32).toInt = 0) h_13
      refine ok_b1 (T_X12_isCost hR.1) (fun v_16 (hv_17 : PB v_16) => ?_)
      refine ok_ite (fun h_18 => ?_) (fun h_19 => ?_)
      · have hc_20 := r_eq (rfl : (v_16).toInt = _) (by decide : (0 : Int32).toInt = 0) h_18
        unfold F_X12_say_22
        exact ok_some ⟨trivial, hR⟩
      · have hc_21 := r_ne (rfl : (v_16).toInt = _) (by decide : (0 : Int32).toInt = 0) h_19
        have hk_22 := im_1049 hR.1
        have hk_23 := im_118 hR.1
        refine ok_b2 (ok_rm2 (C := fun (v : Int64) => 0 ≤ v.toInt ∧ v.toInt ≤ 1000000) hR (T_X12_sureOf ⟨by omega, by omega⟩ hR.1)) (fun v_24 s_25 (hq : (0 ≤ v_24.toInt ∧ v_24.toInt ≤ 1000000) ∧ RM s s_25) => ?_)
        obtain ⟨hv_27, hs_26⟩ := hq
        refine ok_ite (fun h_28 => ?_) (fun h_29 => ?_)
        · exact ok_some ⟨trivial, hs_26⟩
        · exact ok_some ⟨trivial, hs_26⟩
theorem T_X12_said {a1 : Int32} {s : mG} (hI : IM s) : ok (F_X12_said a1 s) (fun τ => (True) ∧ RM s τ.2) := by
  have hR : RM s s := RM_refl hI
  unfold F_X12_said
  refine ok_b1 (T_X12_isIn hR.1) (fun v_1 (hv_2 : QI v_1 a1 (ci 0) (ci 1)) => ?_)
  refine ok_ite (fun h_3 => ?_) (fun h_4 => ?_)
  · have hc_5 := r_eq (rfl : (v_1).toInt = _) (by decide : (0 : Int32).toInt = 0) h_3
    exact ok_some ⟨trivial, hR⟩
  · have hc_6 := r_ne (rfl : (v_1).toInt = _) (by decide : (0 : Int32).toInt = 0) h_4
    have hf_7 := isin_f (a := a1) (by decide : (ci 0).toInt = 0) (by decide : (ci 1).toInt = 1) (hv_2.2 h_4)
    unfold F_X12_said_L18
    refine ok_whl (fun v => a1 = v.1 ∧ RM s v.2.2.2.2 ∧ 0 ≤ (v.2.2.2.1).toInt) (fun v => mUp v.2.2.2.1) ⟨rfl, hR, (show 0 ≤ (ci 0).toInt by rw [((by decide : (ci 0).toInt = 0) : (ci 0).toInt = 0)]; omega)⟩ (fun v hv => ?_)
    obtain ⟨x_23, x_24, x_25, x_26, s_27⟩ := v
    obtain ⟨rfl, rhs_28, rhn_29⟩ := hv
    have hs_28 : RM s s_27 := rhs_28
    have hn_29 : 0 ≤ x_26.toInt := rhn_29
    clear rhs_28 rhn_29
    show ok (F_X12_said_B18 a1 x_24 x_25 x_26 s_27) _
    unfold F_X12_said_B18
    refine ok_ite (fun h_30 => ?_) (fun h_31 => ?_)
    · have hk_32 := im_1049 hs_28.1
      have hk_33 := rm_k 89 1049 hs_28 (by decide)
      have hc_34 := r_le (rfl : (s_27.1 89 1049).toInt = _) (rfl : (x_26).toInt = _) h_30
      refine ok_ite (fun h_35 => ?_) (fun h_36 => ?_)
      · have hc_37 := r_eq (rfl : (a1).toInt = _) (by decide : (0 : Int32).toInt = 0) h_35
        exact ok_some (lp_inr (⟨trivial, hs_28⟩))
      · have hc_38 := r_ne (rfl : (a1).toInt = _) (by decide : (0 : Int32).toInt = 0) h_36
        exact ok_some (lp_inr (⟨trivial, hs_28⟩))
    · have hk_39 := im_1049 hs_28.1
      have hk_40 := rm_k 89 1049 hs_28 (by decide)
      have hc_41 := r_nle (rfl : (s_27.1 89 1049).toInt = _) (rfl : (x_26).toInt = _) h_31
      extract_lets +onlyGivenNames v_42
      have he_43 : v_42.toInt = (1870 + (3 * (x_26).toInt)) := (r_add (by decide : (c16 1870).toInt = 1870) (r_mul (by decide : (ci 3).toInt = 3) (rfl : (x_26).toInt = _) (by omega) (by omega)) (by omega) (by omega))
      have hw_44 : v_42 = ((c16 1870) + ((ci 3) * x_26)) := rfl
      clear_value v_42
      refine ok_nn (ix_ok he_43 (by omega) (by omega)) ?_
      refine ok_nn (ix_ok (r_add he_43 (by decide : (ci 1).toInt = 1) (by omega) (by omega)) (by omega) (by omega)) ?_
      refine ok_nn (ix_ok (r_add he_43 (by decide : (ci 2).toInt = 2) (by omega) (by omega)) (by omega) (by omega)) ?_
      refine ok_b2 (ok_rm2 (C := fun (v : Int32) => True) hs_28 (T_X12_say hs_28.1)) (fun v_45 s_46 (hq : (True) ∧ RM s s_46) => ?_)
      obtain ⟨hv_48, hs_47⟩ := hq
      refine ok_ite (fun h_49 => ?_) (fun h_50 => ?_)
      · have hc_51 := r_eq (rfl : (v_45).toInt = _) (by decide : (ci 1).toInt = 1) h_49
        unfold F_X12_said_79
        refine ok_nn (ix_ok he_43 (by omega) (by omega)) ?_
        have hk_52 := im_112 hs_47.1
        have hk_53 := rm_k 89 112 hs_47 (by decide)
        have hk_54 := im_112 hR.1
        have hk_55 := im_1049 hs_47.1
        have hk_56 := rm_k 89 1049 hs_47 (by decide)
        have hk_57 := im_1049 hR.1
        have hk_58 := im_118 hs_47.1
        have hk_59 := rm_k 89 118 hs_47 (by decide)
        have hk_60 := im_118 hR.1
        refine ok_b2 (ok_rm2 (C := fun (v : Int64) => 0 ≤ v.toInt ∧ v.toInt ≤ 1000000) hs_47 (T_X12_sureOf (by rw [hw_44]; exact im_caller hs_47.1 (by omega) (by omega)) hs_47.1)) (fun v_61 s_62 (hq : (0 ≤ v_61.toInt ∧ v_61.toInt ≤ 1000000) ∧ RM s s_62) => ?_)
        obtain ⟨hv_64, hs_63⟩ := hq
        refine ok_ite (fun h_65 => ?_) (fun h_66 => ?_)
        · have hc_67 := r_eq (by decide : (ci 1).toInt = 1) (by decide : (0 : Int32).toInt = 0) h_65
          unfold F_X12_said_108
          refine ok_ite (fun h_68 => ?_) (fun h_69 => ?_)
          · have hc_70 := r_eq (by decide : (ci 1).toInt = 1) (by decide : (0 : Int32).toInt = 0) h_68
            refine ok_nn (ix_ok (r_add he_43 (by decide : (ci 2).toInt = 2) (by omega) (by omega)) (by omega) (by omega)) ?_
            unfold F_X12_said_149
            extract_lets +onlyGivenNames v_71
            clear_value v_71
            exact ok_some (lp_inl ⟨rfl, hs_63, (up_0 (x := x_26) (by omega) (by omega))⟩ (up_t (x := x_26) (by omega)))
          · have hc_72 := r_ne (by decide : (ci 1).toInt = 1) (by decide : (0 : Int32).toInt = 0) h_69
            refine ok_nn (ix_ok (r_add he_43 (by decide : (ci 1).toInt = 1) (by omega) (by omega)) (by omega) (by omega)) ?_
            unfold F_X12_said_149
            extract_lets +onlyGivenNames v_73
            clear_value v_73
            exact ok_some (lp_inl ⟨rfl, hs_63, (up_0 (x := x_26) (by omega) (by omega))⟩ (up_t (x := x_26) (by omega)))
        · have hc_74 := r_ne (by decide : (ci 1).toInt = 1) (by decide : (0 : Int32).toInt = 0) h_66
          unfold F_X12_said_108
          refine ok_ite (fun h_75 => ?_) (fun h_76 => ?_)
          · have hc_77 := r_eq (by decide : (ci 1).toInt = 1) (by decide : (0 : Int32).toInt = 0) h_75
            refine ok_nn (ix_ok (r_add he_43 (by decide : (ci 2).toInt = 2) (by omega) (by omega)) (by omega) (by omega)) ?_
            unfold F_X12_said_149
            extract_lets +onlyGivenNames v_78
            clear_value v_78
            exact ok_some (lp_inl ⟨rfl, hs_63, (up_0 (x := x_26) (by omega) (by omega))⟩ (up_t (x := x_26) (by omega)))
          · have hc_79 := r_ne (by decide : (ci 1).toInt = 1) (by decide : (0 : Int32).toInt = 0) h_76
            refine ok_nn (ix_ok (r_add he_43 (by decide : (ci 1).toInt = 1) (by omega) (by omega)) (by omega) (by omega)) ?_
            unfold F_X12_said_149
            extract_lets +onlyGivenNames v_80
            clear_value v_80
            exact ok_some (lp_inl ⟨rfl, hs_63, (up_0 (x := x_26) (by omega) (by omega))⟩ (up_t (x := x_26) (by omega)))
      · have hc_81 := r_ne (rfl : (v_45).toInt = _) (by decide : (ci 1).toInt = 1) h_50
        unfold F_X12_said_79
        refine ok_nn (ix_ok he_43 (by omega) (by omega)) ?_
        have hk_82 := im_112 hs_47.1
        have hk_83 := rm_k 89 112 hs_47 (by decide)
        have hk_84 := im_112 hR.1
        have hk_85 := im_1049 hs_47.1
        have hk_86 := rm_k 89 1049 hs_47 (by decide)
        have hk_87 := im_1049 hR.1
        have hk_88 := im_118 hs_47.1
        have hk_89 := rm_k 89 118 hs_47 (by decide)
        have hk_90 := im_118 hR.1
        refine ok_b2 (ok_rm2 (C := fun (v : Int64) => 0 ≤ v.toInt ∧ v.toInt ≤ 1000000) hs_47 (T_X12_sureOf (by rw [hw_44]; exact im_caller hs_47.1 (by omega) (by omega)) hs_47.1)) (fun v_91 s_92 (hq : (0 ≤ v_91.toInt ∧ v_91.toInt ≤ 1000000) ∧ RM s s_92) => ?_)
        obtain ⟨hv_94, hs_93⟩ := hq
        refine ok_ite (fun h_95 => ?_) (fun h_96 => ?_)
        · have hc_97 := r_eq (by decide : (ci 0).toInt = 0) (by decide : (0 : Int32).toInt = 0) h_95
          unfold F_X12_said_108
          refine ok_ite (fun h_98 => ?_) (fun h_99 => ?_)
          · have hc_100 := r_eq (by decide : (ci 0).toInt = 0) (by decide : (0 : Int32).toInt = 0) h_98
            refine ok_nn (ix_ok (r_add he_43 (by decide : (ci 2).toInt = 2) (by omega) (by omega)) (by omega) (by omega)) ?_
            unfold F_X12_said_149
            extract_lets +onlyGivenNames v_101
            clear_value v_101
            exact ok_some (lp_inl ⟨rfl, hs_93, (up_0 (x := x_26) (by omega) (by omega))⟩ (up_t (x := x_26) (by omega)))
          · have hc_102 := r_ne (by decide : (ci 0).toInt = 0) (by decide : (0 : Int32).toInt = 0) h_99
            refine ok_nn (ix_ok (r_add he_43 (by decide : (ci 1).toInt = 1) (by omega) (by omega)) (by omega) (by omega)) ?_
            unfold F_X12_said_149
            extract_lets +onlyGivenNames v_103
            clear_value v_103
            exact ok_some (lp_inl ⟨rfl, hs_93, (up_0 (x := x_26) (by omega) (by omega))⟩ (up_t (x := x_26) (by omega)))
        · have hc_104 := r_ne (by decide : (ci 0).toInt = 0) (by decide : (0 : Int32).toInt = 0) h_96
          unfold F_X12_said_108
          refine ok_ite (fun h_105 => ?_) (fun h_106 => ?_)
          · have hc_107 := r_eq (by decide : (ci 0).toInt = 0) (by decide : (0 : Int32).toInt = 0) h_105
            refine ok_nn (ix_ok (r_add he_43 (by decide : (ci 2).toInt = 2) (by omega) (by omega)) (by omega) (by omega)) ?_
            unfold F_X12_said_149
            extract_lets +onlyGivenNames v_108
            clear_value v_108
            exact ok_some (lp_inl ⟨rfl, hs_93, (up_0 (x := x_26) (by omega) (by omega))⟩ (up_t (x := x_26) (by omega)))
          · have hc_109 := r_ne (by decide : (ci 0).toInt = 0) (by decide : (0 : Int32).toInt = 0) h_106
            refine ok_nn (ix_ok (r_add he_43 (by decide : (ci 1).toInt = 1) (by omega) (by omega)) (by omega) (by omega)) ?_
            unfold F_X12_said_149
            extract_lets +onlyGivenNames v_110
            clear_value v_110
            exact ok_some (lp_inl ⟨rfl, hs_93, (up_0 (x := x_26) (by omega) (by omega))⟩ (up_t (x := x_26) (by omega)))
theorem T_X12_pair {a1 : Int32} {s : mG} (hI : IM s) : ok (F_X12_pair a1 s) (fun τ => (True) ∧ RM s τ.2) := by
  have hR : RM s s := RM_refl hI
  unfold F_X12_pair
  refine ok_b1 (T_X12_isIn hR.1) (fun v_1 (hv_2 : QI v_1 a1 (ci 0) (ci 2)) => ?_)
  refine ok_ite (fun h_3 => ?_) (fun h_4 => ?_)
  · have hc_5 := r_eq (rfl : (v_1).toInt = _) (by decide : (0 : Int32).toInt = 0) h_3
    unfold F_X12_pair_20
    exact ok_some ⟨trivial, hR⟩
  · have hc_6 := r_ne (rfl : (v_1).toInt = _) (by decide : (0 : Int32).toInt = 0) h_4
    have hf_7 := isin_f (a := a1) (by decide : (ci 0).toInt = 0) (by decide : (ci 2).toInt = 2) (hv_2.2 h_4)
    refine ok_ite (fun h_8 => ?_) (fun h_9 => ?_)
    · have hk_10 := im_112 hR.1
      have hc_11 := r_le (by decide : (ci 2).toInt = 2) (rfl : (s.1 89 112).toInt = _) h_8
      unfold F_X12_pair_L35
      refine ok_whl (fun v => a1 = v.1 ∧ RM s v.2.2.2.2.2 ∧ 0 ≤ (v.2.2.2.2.1).toInt) (fun v => mUp v.2.2.2.2.1) ⟨rfl, hR, (show 0 ≤ (ci 0).toInt by rw [((by decide : (ci 0).toInt = 0) : (ci 0).toInt = 0)]; omega)⟩ (fun v hv => ?_)
      obtain ⟨x_27, x_28, x_29, x_30, x_31, s_32⟩ := v
      obtain ⟨rfl, rhs_33, rhn_34⟩ := hv
      have hs_33 : RM s s_32 := rhs_33
      have hn_34 : 0 ≤ x_31.toInt := rhn_34
      clear rhs_33 rhn_34
      show ok (F_X12_pair_B35 a1 x_28 x_29 x_30 x_31 s_32) _
      unfold F_X12_pair_B35
      refine ok_ite (fun h_35 => ?_) (fun h_36 => ?_)
      · have hk_37 := im_112 hs_33.1
        have hk_38 := rm_k 89 112 hs_33 (by decide)
        have hc_39 := r_le (rfl : (s_32.1 89 112).toInt = _) (rfl : (x_31).toInt = _) h_35
        refine ok_ite (fun h_40 => ?_) (fun h_41 => ?_)
        · have hc_42 := r_eq (rfl : (a1).toInt = _) (by decide : (0 : Int32).toInt = 0) h_40
          exact ok_some (lp_inr (⟨trivial, hs_33⟩))
        · have hc_43 := r_ne (rfl : (a1).toInt = _) (by decide : (0 : Int32).toInt = 0) h_41
          refine ok_ite (fun h_44 => ?_) (fun h_45 => ?_)
          · have hc_46 := r_eq (rfl : (a1).toInt = _) (by decide : (ci 1).toInt = 1) h_44
            exact ok_some (lp_inr (⟨trivial, hs_33⟩))
          · have hc_47 := r_ne (rfl : (a1).toInt = _) (by decide : (ci 1).toInt = 1) h_45
            exact ok_some (lp_inr (⟨trivial, hs_33⟩))
      · have hk_48 := im_112 hs_33.1
        have hk_49 := rm_k 89 112 hs_33 (by decide)
        have hc_50 := r_nle (rfl : (s_32.1 89 112).toInt = _) (rfl : (x_31).toInt = _) h_36
        unfold F_X12_pair_L53
        refine ok_whl (fun v => a1 = v.1 ∧ x_31 = v.2.2.2.2.1 ∧ RM s v.2.2.2.2.2.2 ∧ 0 ≤ (v.2.2.2.2.2.1).toInt) (fun v => mUp v.2.2.2.2.2.1) ⟨rfl, rfl, hs_33, (show 0 ≤ (x_31 + (ci 1)).toInt by rw [((r_add (rfl : (x_31).toInt = _) (by decide : (ci 1).toInt = 1) (by omega) (by omega)) : (x_31 + (ci 1)).toInt = ((x_31).toInt + 1))]; omega)⟩ (fun v hv => ?_)
        obtain ⟨x_51, x_52, x_53, x_54, x_55, x_56, s_57⟩ := v
        obtain ⟨rfl, rfl, rhs_58, rhn_59⟩ := hv
        have hs_58 : RM s s_57 := rhs_58
        have hn_59 : 0 ≤ x_56.toInt := rhn_59
        clear rhs_58 rhn_59
        show ok (F_X12_pair_B53 a1 x_52 x_53 x_54 x_31 x_56 s_57) _
        unfold F_X12_pair_B53
        refine ok_ite (fun h_60 => ?_) (fun h_61 => ?_)
        · have hk_62 := im_112 hs_58.1
          have hk_63 := rm_k 89 112 hs_58 (by decide)
          have hc_64 := r_le (rfl : (s_57.1 89 112).toInt = _) (rfl : (x_56).toInt = _) h_60
          exact ok_some (lp_inr (lp_inl ⟨rfl, hs_58, (up_0 (x := x_31) (by omega) (by omega))⟩ (up_t (x := x_31) (by omega))))
        · have hk_65 := im_112 hs_58.1
          have hk_66 := rm_k 89 112 hs_58 (by decide)
          have hc_67 := r_nle (rfl : (s_57.1 89 112).toInt = _) (rfl : (x_56).toInt = _) h_61
          have hk_68 := im_1049 hs_58.1
          have hk_69 := rm_k 89 1049 hs_58 (by decide)
          have hk_70 := im_1049 hR.1
          have hk_71 := im_118 hs_58.1
          have hk_72 := rm_k 89 118 hs_58 (by decide)
          have hk_73 := im_118 hR.1
          refine ok_b2 (ok_rm2 (C := fun (v : Int64) => 0 ≤ v.toInt ∧ v.toInt ≤ 1000000) hs_58 (T_X12_sureOf ⟨by omega, by omega⟩ hs_58.1)) (fun v_74 s_75 (hq : (0 ≤ v_74.toInt ∧ v_74.toInt ≤ 1000000) ∧ RM s s_75) => ?_)
          obtain ⟨hv_77, hs_76⟩ := hq
          have hk_78 := im_112 hs_76.1
          have hk_79 := rm_k 89 112 hs_76 (by decide)
          have hk_80 := im_1049 hs_76.1
          have hk_81 := rm_k 89 1049 hs_76 (by decide)
          have hk_82 := im_118 hs_76.1
          have hk_83 := rm_k 89 118 hs_76 (by decide)
          refine ok_b2 (ok_rm2 (C := fun (v : Int64) => 0 ≤ v.toInt ∧ v.toInt ≤ 1000000) hs_76 (T_X12_sureOf ⟨by omega, by omega⟩ hs_76.1)) (fun v_84 s_85 (hq : (0 ≤ v_84.toInt ∧ v_84.toInt ≤ 1000000) ∧ RM s s_85) => ?_)
          obtain ⟨hv_87, hs_86⟩ := hq
          extract_lets +onlyGivenNames v_88
          clear_value v_88
          refine ok_ite (fun h_89 => ?_) (fun h_90 => ?_)
          · unfold F_X12_pair_105
            exact ok_some (lp_inl ⟨rfl, rfl, hs_86, (up_0 (x := x_56) (by omega) (by omega))⟩ (up_t (x := x_56) (by omega)))
          · unfold F_X12_pair_105
            exact ok_some (lp_inl ⟨rfl, rfl, hs_86, (up_0 (x := x_56) (by omega) (by omega))⟩ (up_t (x := x_56) (by omega)))
    · have hk_91 := im_112 hR.1
      have hc_92 := r_nle (by decide : (ci 2).toInt = 2) (rfl : (s.1 89 112).toInt = _) h_9
      unfold F_X12_pair_20
      exact ok_some ⟨trivial, hR⟩
end
