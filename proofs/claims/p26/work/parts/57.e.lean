noncomputable section
theorem T_X12_laysChances {s : mG} (hI : IM s) : ok (F_X12_laysChances s) (RM s) := by
  have hR : RM s s := RM_refl hI
  unfold F_X12_laysChances
  unfold F_X12_laysChances_L2
  refine ok_whl (fun v => RM s v.2 ∧ 0 ≤ (v.1).toInt) (fun v => mUp v.1) ⟨hR, (show 0 ≤ (ci 0).toInt by rw [((by decide : (ci 0).toInt = 0) : (ci 0).toInt = 0)]; omega)⟩ (fun v hv => ?_)
  obtain ⟨x_3, s_4⟩ := v
  obtain ⟨rhs_5, rhn_6⟩ := hv
  have hs_5 : RM s s_4 := rhs_5
  have hn_6 : 0 ≤ x_3.toInt := rhn_6
  clear rhs_5 rhn_6
  show ok (F_X12_laysChances_B2 x_3 s_4) _
  unfold F_X12_laysChances_B2
  refine ok_ite (fun h_7 => ?_) (fun h_8 => ?_)
  · have hk_9 := im_112 hs_5.1
    have hk_10 := rm_k 89 112 hs_5 (by decide)
    have hc_11 := r_lt (rfl : (s_4.1 89 112).toInt = _) (rfl : (x_3).toInt = _) h_7
    refine ok_b1r ?_
    unfold F_X12_laysChances_L38
    refine ok_whl (fun v => RM s v.2 ∧ 0 ≤ (v.1).toInt) (fun v => mUp v.1) ⟨hs_5, (show 0 ≤ (ci 0).toInt by rw [((by decide : (ci 0).toInt = 0) : (ci 0).toInt = 0)]; omega)⟩ (fun v hv => ?_)
    obtain ⟨x_20, s_21⟩ := v
    obtain ⟨rhs_22, rhn_23⟩ := hv
    have hs_22 : RM s s_21 := rhs_22
    have hn_23 : 0 ≤ x_20.toInt := rhn_23
    clear rhs_22 rhn_23
    show ok (F_X12_laysChances_B38 x_20 s_21) _
    unfold F_X12_laysChances_B38
    refine ok_ite (fun h_24 => ?_) (fun h_25 => ?_)
    · have hk_26 := im_112 hs_22.1
      have hk_27 := rm_k 89 112 hs_22 (by decide)
      have hc_28 := r_le (rfl : (s_21.1 89 112).toInt = _) (rfl : (x_20).toInt = _) h_24
      exact ok_some (lp_inr (hs_22))
    · have hk_29 := im_112 hs_22.1
      have hk_30 := rm_k 89 112 hs_22 (by decide)
      have hc_31 := r_nle (rfl : (s_21.1 89 112).toInt = _) (rfl : (x_20).toInt = _) h_25
      have hk_32 := im_112 hR.1
      have hk_33 := im_1049 hs_22.1
      have hk_34 := rm_k 89 1049 hs_22 (by decide)
      have hk_35 := im_1049 hR.1
      have hk_36 := im_118 hs_22.1
      have hk_37 := rm_k 89 118 hs_22 (by decide)
      have hk_38 := im_118 hR.1
      refine ok_b2 (ok_rm2 (C := fun (v : Int64) => 0 ≤ v.toInt ∧ v.toInt ≤ 1000000) hs_22 (T_X12_sureOf ⟨by omega, by omega⟩ hs_22.1)) (fun v_39 s_40 (hq : (0 ≤ v_39.toInt ∧ v_39.toInt ≤ 1000000) ∧ RM s s_40) => ?_)
      obtain ⟨hv_42, hs_41⟩ := hq
      unfold F_X12_laysChances_L64
      have hk_43 := im_112 hs_41.1
      have hk_44 := rm_k 89 112 hs_41 (by decide)
      refine ok_whl (fun v => x_20 = v.1 ∧ v_39 = v.2.1 ∧ RM s v.2.2.2 ∧ (v.2.2.1).toInt ≤ (s_40.1 89 112).toInt) (fun v => mDn v.2.2.1) ⟨rfl, rfl, hs_41, (show (s_40.1 89 112).toInt ≤ (s_40.1 89 112).toInt by omega)⟩ (fun v hv => ?_)
      obtain ⟨x_45, x_46, x_47, s_48⟩ := v
      obtain ⟨rfl, rfl, rhs_49, rhn_50⟩ := hv
      have hs_49 : RM s s_48 := rhs_49
      have hn_50 : x_47.toInt ≤ (s_40.1 89 112).toInt := rhn_50
      clear rhs_49 rhn_50
      show ok (F_X12_laysChances_B64 x_20 v_39 x_47 s_48) _
      unfold F_X12_laysChances_B64
      refine ok_ite (fun h_51 => ?_) (fun h_52 => ?_)
      · have hc_53 := r_lt (rfl : (x_47).toInt = _) (by decide : (0 : Int32).toInt = 0) h_51
        exact ok_some (lp_inr (lp_inl ⟨hs_49, (up_0 (x := x_20) (by omega) (by omega))⟩ (up_t (x := x_20) (by omega))))
      · have hc_54 := r_nlt (rfl : (x_47).toInt = _) (by decide : (0 : Int32).toInt = 0) h_52
        refine ok_nn (ix_ok (rfl : (x_47).toInt = _) (by omega) (by omega)) ?_
        refine ok_ite (fun h_55 => ?_) (fun h_56 => ?_)
        · have hc_57 := r_eq (rfl : (x_47).toInt = _) (by decide : (0 : Int32).toInt = 0) h_55
          unfold F_X12_laysChances_116
          refine ok_nn (ix_ok (rfl : (x_47).toInt = _) (by omega) (by omega)) ?_
          extract_lets +onlyGivenNames s_58
          have hs_59 : RM s s_58 := (RM_muL hs_49)
          clear_value s_58
          exact ok_some (lp_inl ⟨rfl, rfl, hs_59, (dn_le (x := x_47) (by omega) (by omega))⟩ (dn_i (x := x_47) (by omega)))
        · have hc_60 := r_ne (rfl : (x_47).toInt = _) (by decide : (0 : Int32).toInt = 0) h_56
          refine ok_nn (ix_ok (r_sub (rfl : (x_47).toInt = _) (by decide : (ci 1).toInt = 1) (by omega) (by omega)) (by omega) (by omega)) ?_
          unfold F_X12_laysChances_116
          refine ok_nn (ix_ok (rfl : (x_47).toInt = _) (by omega) (by omega)) ?_
          extract_lets +onlyGivenNames s_61
          have hs_62 : RM s s_61 := (RM_muL hs_49)
          clear_value s_61
          exact ok_some (lp_inl ⟨rfl, rfl, hs_62, (dn_le (x := x_47) (by omega) (by omega))⟩ (dn_i (x := x_47) (by omega)))
  · have hk_63 := im_112 hs_5.1
    have hk_64 := rm_k 89 112 hs_5 (by decide)
    have hc_65 := r_nlt (rfl : (s_4.1 89 112).toInt = _) (rfl : (x_3).toInt = _) h_8
    refine ok_ite (fun h_66 => ?_) (fun h_67 => ?_)
    · have hc_68 := r_eq (rfl : (x_3).toInt = _) (by decide : (0 : Int32).toInt = 0) h_66
      unfold F_X12_laysChances_29
      refine ok_nn (ix_ok (rfl : (x_3).toInt = _) (by omega) (by omega)) ?_
      extract_lets +onlyGivenNames s_69
      have hs_70 : RM s s_69 := (RM_muL hs_5)
      clear_value s_69
      exact ok_some (lp_inl ⟨hs_70, (up_0 (x := x_3) (by omega) (by omega))⟩ (up_t (x := x_3) (by omega)))
    · have hc_71 := r_ne (rfl : (x_3).toInt = _) (by decide : (0 : Int32).toInt = 0) h_67
      unfold F_X12_laysChances_29
      refine ok_nn (ix_ok (rfl : (x_3).toInt = _) (by omega) (by omega)) ?_
      extract_lets +onlyGivenNames s_72
      have hs_73 : RM s s_72 := (RM_muL hs_5)
      clear_value s_72
      exact ok_some (lp_inl ⟨hs_73, (up_0 (x := x_3) (by omega) (by omega))⟩ (up_t (x := x_3) (by omega)))
theorem T_X12_many {a1 : Int32} {s : mG} (hI : IM s) : ok (F_X12_many a1 s) (fun τ => (True) ∧ RM s τ.2) := by
  have hR : RM s s := RM_refl hI
  unfold F_X12_many
  refine ok_b1 (T_X12_isIn hR.1) (fun v_1 (hv_2 : QI v_1 a1 (ci 0) (ci 2)) => ?_)
  refine ok_ite (fun h_3 => ?_) (fun h_4 => ?_)
  · have hc_5 := r_eq (rfl : (v_1).toInt = _) (by decide : (0 : Int32).toInt = 0) h_3
    exact ok_some ⟨trivial, hR⟩
  · have hc_6 := r_ne (rfl : (v_1).toInt = _) (by decide : (0 : Int32).toInt = 0) h_4
    have hf_7 := isin_f (a := a1) (by decide : (ci 0).toInt = 0) (by decide : (ci 2).toInt = 2) (hv_2.2 h_4)
    unfold F_X12_many_L16
    refine ok_whl (fun v => a1 = v.1 ∧ RM s v.2.2.2 ∧ 0 ≤ (v.2.2.1).toInt) (fun v => mUp v.2.2.1) ⟨rfl, hR, (show 0 ≤ (ci 0).toInt by rw [((by decide : (ci 0).toInt = 0) : (ci 0).toInt = 0)]; omega)⟩ (fun v hv => ?_)
    obtain ⟨x_12, x_13, x_14, s_15⟩ := v
    obtain ⟨rfl, rhs_16, rhn_17⟩ := hv
    have hs_16 : RM s s_15 := rhs_16
    have hn_17 : 0 ≤ x_14.toInt := rhn_17
    clear rhs_16 rhn_17
    show ok (F_X12_many_B16 a1 x_13 x_14 s_15) _
    unfold F_X12_many_B16
    refine ok_ite (fun h_18 => ?_) (fun h_19 => ?_)
    · have hk_20 := im_112 hs_16.1
      have hk_21 := rm_k 89 112 hs_16 (by decide)
      have hc_22 := r_le (rfl : (s_15.1 89 112).toInt = _) (rfl : (x_14).toInt = _) h_18
      refine ok_ite (fun h_23 => ?_) (fun h_24 => ?_)
      · have hc_25 := r_eq (rfl : (a1).toInt = _) (by decide : (0 : Int32).toInt = 0) h_23
        extract_lets +onlyGivenNames v_26
        clear_value v_26
        exact ok_some (lp_inr (⟨trivial, hs_16⟩))
      · have hc_27 := r_ne (rfl : (a1).toInt = _) (by decide : (0 : Int32).toInt = 0) h_24
        refine ok_b1 (ok_rm hs_16 (T_X12_laysChances hs_16.1)) (fun s_28 (hs_29 : RM s s_28) => ?_)
        refine ok_b1r ?_
        unfold F_X12_many_L64
        refine ok_whl (fun v => a1 = v.1 ∧ RM s v.2.2.2 ∧ 0 ≤ (v.2.2.1).toInt ∧ (0 ≤ (v.2.1).toInt ∧ (v.2.1).toInt ≤ 12)) (fun v => mUp v.2.2.1) ⟨rfl, hs_29, (show 0 ≤ (ci 1).toInt by rw [((by decide : (ci 1).toInt = 1) : (ci 1).toInt = 1)]; omega), (show 0 ≤ (ci 0).toInt ∧ (ci 0).toInt ≤ 12 by rw [((by decide : (ci 0).toInt = 0) : (ci 0).toInt = 0)]; exact ⟨by omega, by omega⟩)⟩ (fun v hv => ?_)
        obtain ⟨x_31, x_32, x_33, s_34⟩ := v
        obtain ⟨rfl, rhs_35, rhn_36, rhn_37⟩ := hv
        have hs_35 : RM s s_34 := rhs_35
        have hn_36 : 0 ≤ x_33.toInt := rhn_36
        have hn_37 : 0 ≤ (x_32).toInt ∧ (x_32).toInt ≤ 12 := rhn_37
        clear rhs_35 rhn_36 rhn_37
        show ok (F_X12_many_B64 a1 x_32 x_33 s_34) _
        unfold F_X12_many_B64
        refine ok_ite (fun h_38 => ?_) (fun h_39 => ?_)
        · have hk_40 := im_112 hs_35.1
          have hk_41 := rm_k 89 112 hs_35 (by decide)
          have hc_42 := r_lt (rfl : (s_34.1 89 112).toInt = _) (rfl : (x_33).toInt = _) h_38
          refine ok_ite (fun h_43 => ?_) (fun h_44 => ?_)
          · have hc_45 := r_eq (rfl : (a1).toInt = _) (by decide : (ci 1).toInt = 1) h_43
            exact ok_some (lp_inr (⟨trivial, hs_35⟩))
          · have hc_46 := r_ne (rfl : (a1).toInt = _) (by decide : (ci 1).toInt = 1) h_44
            refine ok_nn (ix_ok (rfl : (x_32).toInt = _) (by omega) (by omega)) ?_
            extract_lets +onlyGivenNames v_47
            clear_value v_47
            exact ok_some (lp_inr (⟨trivial, hs_35⟩))
        · have hk_48 := im_112 hs_35.1
          have hk_49 := rm_k 89 112 hs_35 (by decide)
          have hc_50 := r_nlt (rfl : (s_34.1 89 112).toInt = _) (rfl : (x_33).toInt = _) h_39
          refine ok_nn (ix_ok (rfl : (x_33).toInt = _) (by omega) (by omega)) ?_
          refine ok_nn (ix_ok (rfl : (x_32).toInt = _) (by omega) (by omega)) ?_
          refine ok_ite (fun h_51 => ?_) (fun h_52 => ?_)
          · unfold F_X12_many_98
            exact ok_some (lp_inl ⟨rfl, hs_35, (up_0 (x := x_33) (by omega) (by omega)), (show 0 ≤ (x_32).toInt ∧ (x_32).toInt ≤ 12 from ⟨by omega, by omega⟩)⟩ (up_t (x := x_33) (by omega)))
          · unfold F_X12_many_98
            exact ok_some (lp_inl ⟨rfl, hs_35, (up_0 (x := x_33) (by omega) (by omega)), (show 0 ≤ (x_33).toInt ∧ (x_33).toInt ≤ 12 from ⟨by omega, by omega⟩)⟩ (up_t (x := x_33) (by omega)))
    · have hk_53 := im_112 hs_16.1
      have hk_54 := rm_k 89 112 hs_16 (by decide)
      have hc_55 := r_nle (rfl : (s_15.1 89 112).toInt = _) (rfl : (x_14).toInt = _) h_19
      have hk_56 := im_112 hR.1
      have hk_57 := im_1049 hs_16.1
      have hk_58 := rm_k 89 1049 hs_16 (by decide)
      have hk_59 := im_1049 hR.1
      have hk_60 := im_118 hs_16.1
      have hk_61 := rm_k 89 118 hs_16 (by decide)
      have hk_62 := im_118 hR.1
      refine ok_b2 (ok_rm2 (C := fun (v : Int64) => 0 ≤ v.toInt ∧ v.toInt ≤ 1000000) hs_16 (T_X12_sureOf ⟨by omega, by omega⟩ hs_16.1)) (fun v_63 s_64 (hq : (0 ≤ v_63.toInt ∧ v_63.toInt ≤ 1000000) ∧ RM s s_64) => ?_)
      obtain ⟨hv_66, hs_65⟩ := hq
      exact ok_some (lp_inl ⟨rfl, hs_65, (up_0 (x := x_14) (by omega) (by omega))⟩ (up_t (x := x_14) (by omega)))
theorem T_X12_tagCostOf {a1 : Int32} {a2 : Int32} {a3 : Int32} {s : mG} (hI : IM s) : ok (F_X12_tagCostOf a1 a2 a3 s) (fun τ => (True) ∧ RM s τ.2) := by
  have hR : RM s s := RM_refl hI
  unfold F_X12_tagCostOf
  unfold F_X12_tagCostOf_L6
  refine ok_whl (fun v => a1 = v.1 ∧ a2 = v.2.1 ∧ a3 = v.2.2.1 ∧ RM s v.2.2.2.2.2 ∧ 0 ≤ (v.2.2.2.2.1).toInt) (fun v => mUp v.2.2.2.2.1) ⟨rfl, rfl, rfl, hR, (show 0 ≤ (ci 0).toInt by rw [((by decide : (ci 0).toInt = 0) : (ci 0).toInt = 0)]; omega)⟩ (fun v hv => ?_)
  obtain ⟨x_4, x_5, x_6, x_7, x_8, s_9⟩ := v
  obtain ⟨rfl, rfl, rfl, rhs_10, rhn_11⟩ := hv
  have hs_10 : RM s s_9 := rhs_10
  have hn_11 : 0 ≤ x_8.toInt := rhn_11
  clear rhs_10 rhn_11
  show ok (F_X12_tagCostOf_B6 a1 a2 a3 x_7 x_8 s_9) _
  unfold F_X12_tagCostOf_B6
  refine ok_ite (fun h_12 => ?_) (fun h_13 => ?_)
  · have hk_14 := im_112 hs_10.1
    have hk_15 := rm_k 89 112 hs_10 (by decide)
    have hc_16 := r_le (rfl : (s_9.1 89 112).toInt = _) (rfl : (x_8).toInt = _) h_12
    extract_lets +onlyGivenNames v_17
    clear_value v_17
    exact ok_some (lp_inr (⟨trivial, hs_10⟩))
  · have hk_18 := im_112 hs_10.1
    have hk_19 := rm_k 89 112 hs_10 (by decide)
    have hc_20 := r_nle (rfl : (s_9.1 89 112).toInt = _) (rfl : (x_8).toInt = _) h_13
    refine ok_nn (ix_ok (r_add (by decide : (c8 27).toInt = 27) (rfl : (x_8).toInt = _) (by omega) (by omega)) (by omega) (by omega)) ?_
    have hk_21 := im_112 hR.1
    refine ok_b2 (ok_rm2 (C := fun (v : Int32) => 0 ≤ v.toInt ∧ v.toInt ≤ 1000) hs_10 (T_X12_saysIn ⟨by omega, by omega⟩ hs_10.1)) (fun v_22 s_23 (hq : (0 ≤ v_22.toInt ∧ v_22.toInt ≤ 1000) ∧ RM s s_23) => ?_)
    obtain ⟨hv_25, hs_24⟩ := hq
    exact ok_some (lp_inl ⟨rfl, rfl, rfl, hs_24, (up_0 (x := x_8) (by omega) (by omega))⟩ (up_t (x := x_8) (by omega)))
theorem T_X12_tag {a1 : Int32} {a2 : Int32} {s : mG} (hI : IM s) : ok (F_X12_tag a1 a2 s) (fun τ => (True) ∧ RM s τ.2) := by
  have hR : RM s s := RM_refl hI
  unfold F_X12_tag
  refine ok_b1 (T_X12_isIn hR.1) (fun v_1 (hv_2 : QI v_1 a1 (ci 0) (c16 999)) => ?_)
  refine ok_ite (fun h_3 => ?_) (fun h_4 => ?_)
  · have hc_5 := r_eq (rfl : (v_1).toInt = _) (by decide : (0 : Int32).toInt = 0) h_3
    unfold F_X12_tag_22
    exact ok_some ⟨trivial, hR⟩
  · have hc_6 := r_ne (rfl : (v_1).toInt = _) (by decide : (0 : Int32).toInt = 0) h_4
    have hf_7 := isin_f (a := a1) (by decide : (ci 0).toInt = 0) (by decide : (c16 999).toInt = 999) (hv_2.2 h_4)
    refine ok_b1 (T_X12_isIn hR.1) (fun v_8 (hv_9 : QI v_8 a2 (ci 0) (c16 999)) => ?_)
    refine ok_ite (fun h_10 => ?_) (fun h_11 => ?_)
    · have hc_12 := r_eq (rfl : (v_8).toInt = _) (by decide : (0 : Int32).toInt = 0) h_10
      unfold F_X12_tag_22
      exact ok_some ⟨trivial, hR⟩
    · have hc_13 := r_ne (rfl : (v_8).toInt = _) (by decide : (0 : Int32).toInt = 0) h_11
      have hf_14 := isin_f (a := a2) (by decide : (ci 0).toInt = 0) (by decide : (c16 999).toInt = 999) (hv_9.2 h_11)
      unfold F_X12_tag_L29
      refine ok_whl (fun v => a1 = v.1 ∧ a2 = v.2.1 ∧ RM s v.2.2.2.2 ∧ 0 ≤ (v.2.2.2.1).toInt) (fun v => mUp v.2.2.2.1) ⟨rfl, rfl, hR, (show 0 ≤ (ci 1).toInt by rw [((by decide : (ci 1).toInt = 1) : (ci 1).toInt = 1)]; omega)⟩ (fun v hv => ?_)
      obtain ⟨x_19, x_20, x_21, x_22, s_23⟩ := v
      obtain ⟨rfl, rfl, rhs_24, rhn_25⟩ := hv
      have hs_24 : RM s s_23 := rhs_24
      have hn_25 : 0 ≤ x_22.toInt := rhn_25
      clear rhs_24 rhn_25
      show ok (F_X12_tag_B29 a1 a2 x_21 x_22 s_23) _
      unfold F_X12_tag_B29
      refine ok_ite (fun h_26 => ?_) (fun h_27 => ?_)
      · have hc_28 := r_lt (by decide : (c8 20).toInt = 20) (rfl : (x_22).toInt = _) h_26
        exact ok_some (lp_inr (⟨trivial, hs_24⟩))
      · have hc_29 := r_nlt (by decide : (c8 20).toInt = 20) (rfl : (x_22).toInt = _) h_27
        refine ok_b2 (ok_rm2 (C := fun (v : Int32) => True) hs_24 (T_X12_tagCostOf hs_24.1)) (fun v_30 s_31 (hq : (True) ∧ RM s s_31) => ?_)
        obtain ⟨hv_33, hs_32⟩ := hq
        refine ok_b2 (ok_rm2 (C := fun (v : Int32) => True) hs_32 (T_X12_tagCostOf hs_32.1)) (fun v_34 s_35 (hq : (True) ∧ RM s s_35) => ?_)
        obtain ⟨hv_37, hs_36⟩ := hq
        refine ok_ite (fun h_38 => ?_) (fun h_39 => ?_)
        · have hc_40 := r_le (rfl : (v_34).toInt = _) (rfl : (v_30).toInt = _) h_38
          unfold F_X12_tag_57
          exact ok_some (lp_inl ⟨rfl, rfl, hs_36, (up_0 (x := x_22) (by omega) (by omega))⟩ (up_t (x := x_22) (by omega)))
        · have hc_41 := ge_t h_39
          have hc_42 := r_nle (rfl : (v_34).toInt = _) (rfl : (v_30).toInt = _) h_39
          unfold F_X12_tag_57
          exact ok_some (lp_inl ⟨rfl, rfl, hs_36, (up_0 (x := x_22) (by omega) (by omega))⟩ (up_t (x := x_22) (by omega)))
end
