noncomputable section
theorem T_X12_tagCost {a1 : Int32} {a2 : Int32} {a3 : Int32} {s : mG} (hI : IM s) : ok (F_X12_tagCost a1 a2 a3 s) (fun τ => (True) ∧ RM s τ.2) := by
  have hR : RM s s := RM_refl hI
  unfold F_X12_tagCost
  refine ok_b1 (T_X12_isIn hR.1) (fun v_1 (hv_2 : QI v_1 a1 (ci 0) (c16 999)) => ?_)
  refine ok_ite (fun h_3 => ?_) (fun h_4 => ?_)
  · have hc_5 := r_eq (rfl : (v_1).toInt = _) (by decide : (0 : Int32).toInt = 0) h_3
    unfold F_X12_tagCost_42
    exact ok_some ⟨trivial, hR⟩
  · have hc_6 := r_ne (rfl : (v_1).toInt = _) (by decide : (0 : Int32).toInt = 0) h_4
    have hf_7 := isin_f (a := a1) (by decide : (ci 0).toInt = 0) (by decide : (c16 999).toInt = 999) (hv_2.2 h_4)
    refine ok_b1 (T_X12_isIn hR.1) (fun v_8 (hv_9 : QI v_8 a2 (ci 0) (c16 999)) => ?_)
    refine ok_ite (fun h_10 => ?_) (fun h_11 => ?_)
    · have hc_12 := r_eq (rfl : (v_8).toInt = _) (by decide : (0 : Int32).toInt = 0) h_10
      unfold F_X12_tagCost_42
      exact ok_some ⟨trivial, hR⟩
    · have hc_13 := r_ne (rfl : (v_8).toInt = _) (by decide : (0 : Int32).toInt = 0) h_11
      have hf_14 := isin_f (a := a2) (by decide : (ci 0).toInt = 0) (by decide : (c16 999).toInt = 999) (hv_9.2 h_11)
      refine ok_b1 (T_X12_isIn hR.1) (fun v_15 (hv_16 : QI v_15 a3 (ci 0) (c8 20)) => ?_)
      refine ok_ite (fun h_17 => ?_) (fun h_18 => ?_)
      · have hc_19 := r_eq (rfl : (v_15).toInt = _) (by decide : (0 : Int32).toInt = 0) h_17
        unfold F_X12_tagCost_42
        exact ok_some ⟨trivial, hR⟩
      · have hc_20 := r_ne (rfl : (v_15).toInt = _) (by decide : (0 : Int32).toInt = 0) h_18
        have hf_21 := isin_f (a := a3) (by decide : (ci 0).toInt = 0) (by decide : (c8 20).toInt = 20) (hv_16.2 h_18)
        refine ok_b2 (ok_rm2 (C := fun (v : Int32) => True) hR (T_X12_tagCostOf hR.1)) (fun v_22 s_23 (hq : (True) ∧ RM s s_23) => ?_)
        obtain ⟨hv_25, hs_24⟩ := hq
        exact ok_some ⟨trivial, hs_24⟩
theorem T_X12_longFrom {s : mG} {a1 : Int32} {a2 : Int64} (h_a1 : 0 ≤ a1.toInt) (hI : IM s) : ok (F_X12_longFrom s a1 a2) (fun (v : Int32) => True) := by
  have hR : RM s s := RM_refl hI
  unfold F_X12_longFrom
  unfold F_X12_longFrom_L6
  refine ok_whl (fun v => a1 = v.1 ∧ a2 = v.2.1 ∧ 0 ≤ (v.2.2.2).toInt) (fun v => mUp v.2.2.2) ⟨rfl, rfl, (show 0 ≤ (a1).toInt by omega)⟩ (fun v hv => ?_)
  obtain ⟨x_2, x_3, x_4, x_5⟩ := v
  obtain ⟨rfl, rfl, rhn_6⟩ := hv
  have hn_6 : 0 ≤ x_5.toInt := rhn_6
  clear rhn_6
  show ok (F_X12_longFrom_B6 s a1 a2 x_4 x_5) _
  unfold F_X12_longFrom_B6
  refine ok_ite (fun h_7 => ?_) (fun h_8 => ?_)
  · have hk_9 := im_112 hR.1
    have hc_10 := r_lt (rfl : (s.1 89 112).toInt = _) (rfl : (x_5).toInt = _) h_7
    exact ok_some (lp_inr (trivial))
  · have hk_11 := im_112 hR.1
    have hc_12 := r_nlt (rfl : (s.1 89 112).toInt = _) (rfl : (x_5).toInt = _) h_8
    refine ok_nn (ix_ok (rfl : (x_5).toInt = _) (by omega) (by omega)) ?_
    extract_lets +onlyGivenNames v_13
    clear_value v_13
    refine ok_ite (fun h_14 => ?_) (fun h_15 => ?_)
    · exact ok_some (lp_inl ⟨rfl, rfl, (up_0 (x := x_5) (by omega) (by omega))⟩ (up_t (x := x_5) (by omega)))
    · exact ok_some (lp_inr (trivial))
theorem T_X12_span {a1 : Int32} {a2 : Int32} {s : mG} (hI : IM s) : ok (F_X12_span a1 a2 s) (fun τ => (True) ∧ RM s τ.2) := by
  have hR : RM s s := RM_refl hI
  unfold F_X12_span
  refine ok_b1 (T_X12_isIn hR.1) (fun v_1 (hv_2 : QI v_1 a1 (ci 0) (c16 1000)) => ?_)
  refine ok_ite (fun h_3 => ?_) (fun h_4 => ?_)
  · have hc_5 := r_eq (rfl : (v_1).toInt = _) (by decide : (0 : Int32).toInt = 0) h_3
    unfold F_X12_span_20
    exact ok_some ⟨trivial, hR⟩
  · have hc_6 := r_ne (rfl : (v_1).toInt = _) (by decide : (0 : Int32).toInt = 0) h_4
    have hf_7 := isin_f (a := a1) (by decide : (ci 0).toInt = 0) (by decide : (c16 1000).toInt = 1000) (hv_2.2 h_4)
    refine ok_b1 (T_X12_isIn hR.1) (fun v_8 (hv_9 : QI v_8 a2 (ci 0) (ci 1)) => ?_)
    refine ok_ite (fun h_10 => ?_) (fun h_11 => ?_)
    · have hc_12 := r_eq (rfl : (v_8).toInt = _) (by decide : (0 : Int32).toInt = 0) h_10
      unfold F_X12_span_20
      exact ok_some ⟨trivial, hR⟩
    · have hc_13 := r_ne (rfl : (v_8).toInt = _) (by decide : (0 : Int32).toInt = 0) h_11
      have hf_14 := isin_f (a := a2) (by decide : (ci 0).toInt = 0) (by decide : (ci 1).toInt = 1) (hv_9.2 h_11)
      refine ok_b1 (ok_rm hR (T_X12_laysChances hR.1)) (fun s_15 (hs_16 : RM s s_15) => ?_)
      unfold F_X12_span_L34
      refine ok_whl (fun v => a1 = v.1 ∧ a2 = v.2.1 ∧ RM s v.2.2.2.2.2 ∧ 0 ≤ (v.2.2.2.2.1).toInt) (fun v => mUp v.2.2.2.2.1) ⟨rfl, rfl, hs_16, (show 0 ≤ (ci 0).toInt by rw [((by decide : (ci 0).toInt = 0) : (ci 0).toInt = 0)]; omega)⟩ (fun v hv => ?_)
      obtain ⟨x_18, x_19, x_20, x_21, x_22, s_23⟩ := v
      obtain ⟨rfl, rfl, rhs_24, rhn_25⟩ := hv
      have hs_24 : RM s s_23 := rhs_24
      have hn_25 : 0 ≤ x_22.toInt := rhn_25
      clear rhs_24 rhn_25
      show ok (F_X12_span_B34 a1 a2 x_20 x_21 x_22 s_23) _
      unfold F_X12_span_B34
      refine ok_ite (fun h_26 => ?_) (fun h_27 => ?_)
      · have hk_28 := im_112 hs_24.1
        have hk_29 := rm_k 89 112 hs_24 (by decide)
        have hc_30 := r_lt (rfl : (s_23.1 89 112).toInt = _) (rfl : (x_22).toInt = _) h_26
        refine ok_ite (fun h_31 => ?_) (fun h_32 => ?_)
        · have hc_33 := r_eq (rfl : (x_21).toInt = _) (by decide : (ci (-1)).toInt = (-1)) h_31
          refine ok_b1r ?_
          unfold F_X12_span_103
          exact ok_some ⟨trivial, hs_24⟩
        · have hc_34 := r_ne (rfl : (x_21).toInt = _) (by decide : (ci (-1)).toInt = (-1)) h_32
          refine ok_ite (fun h_35 => ?_) (fun h_36 => ?_)
          · have hc_37 := r_eq (rfl : (a2).toInt = _) (by decide : (0 : Int32).toInt = 0) h_35
            refine ok_b1r ?_
            unfold F_X12_span_103
            exact ok_some ⟨trivial, hs_24⟩
          · have hc_38 := r_ne (rfl : (a2).toInt = _) (by decide : (0 : Int32).toInt = 0) h_36
            exact ok_some (lp_inr (⟨trivial, hs_24⟩))
      · have hk_39 := im_112 hs_24.1
        have hk_40 := rm_k 89 112 hs_24 (by decide)
        have hc_41 := r_nlt (rfl : (s_23.1 89 112).toInt = _) (rfl : (x_22).toInt = _) h_27
        refine ok_b1 (T_X12_longFrom (by omega) hs_24.1) (fun v_42 _ => ?_)
        refine ok_ite (fun h_44 => ?_) (fun h_45 => ?_)
        · have hc_46 := r_eq (rfl : (v_42).toInt = _) (by decide : (ci (-1)).toInt = (-1)) h_44
          unfold F_X12_span_87
          exact ok_some (lp_inl ⟨rfl, rfl, hs_24, (up_0 (x := x_22) (by omega) (by omega))⟩ (up_t (x := x_22) (by omega)))
        · have hc_47 := r_ne (rfl : (v_42).toInt = _) (by decide : (ci (-1)).toInt = (-1)) h_45
          refine ok_ite (fun h_48 => ?_) (fun h_49 => ?_)
          · have hc_50 := r_eq (rfl : (x_20).toInt = _) (by decide : (ci (-1)).toInt = (-1)) h_48
            unfold F_X12_span_80
            unfold F_X12_span_87
            exact ok_some (lp_inl ⟨rfl, rfl, hs_24, (up_0 (x := x_22) (by omega) (by omega))⟩ (up_t (x := x_22) (by omega)))
          · have hc_51 := r_ne (rfl : (x_20).toInt = _) (by decide : (ci (-1)).toInt = (-1)) h_49
            refine ok_ite (fun h_52 => ?_) (fun h_53 => ?_)
            · have hc_54 := r_lt (rfl : (v_42).toInt = _) (rfl : (x_20).toInt = _) h_52
              unfold F_X12_span_80
              unfold F_X12_span_87
              exact ok_some (lp_inl ⟨rfl, rfl, hs_24, (up_0 (x := x_22) (by omega) (by omega))⟩ (up_t (x := x_22) (by omega)))
            · have hc_55 := r_nlt (rfl : (v_42).toInt = _) (rfl : (x_20).toInt = _) h_53
              unfold F_X12_span_87
              exact ok_some (lp_inl ⟨rfl, rfl, hs_24, (up_0 (x := x_22) (by omega) (by omega))⟩ (up_t (x := x_22) (by omega)))
theorem T_X12_laysOthers {a1 : Int32} {s : mG} (hI : IM s) : ok (F_X12_laysOthers a1 s) (RM s) := by
  have hR : RM s s := RM_refl hI
  unfold F_X12_laysOthers
  unfold F_X12_laysOthers_L2
  refine ok_whl (fun v => a1 = v.1 ∧ RM s v.2.2 ∧ 0 ≤ (v.2.1).toInt) (fun v => mUp v.2.1) ⟨rfl, hR, (show 0 ≤ (ci 0).toInt by rw [((by decide : (ci 0).toInt = 0) : (ci 0).toInt = 0)]; omega)⟩ (fun v hv => ?_)
  obtain ⟨x_3, x_4, s_5⟩ := v
  obtain ⟨rfl, rhs_6, rhn_7⟩ := hv
  have hs_6 : RM s s_5 := rhs_6
  have hn_7 : 0 ≤ x_4.toInt := rhn_7
  clear rhs_6 rhn_7
  show ok (F_X12_laysOthers_B2 a1 x_4 s_5) _
  unfold F_X12_laysOthers_B2
  refine ok_ite (fun h_8 => ?_) (fun h_9 => ?_)
  · have hc_10 := r_le (by decide : (c8 14).toInt = 14) (rfl : (x_4).toInt = _) h_8
    refine ok_b1r ?_
    unfold F_X12_laysOthers_L34
    refine ok_whl (fun v => a1 = v.1 ∧ RM s v.2.2 ∧ 0 ≤ (v.2.1).toInt) (fun v => mUp v.2.1) ⟨rfl, hs_6, (show 0 ≤ (ci 0).toInt by rw [((by decide : (ci 0).toInt = 0) : (ci 0).toInt = 0)]; omega)⟩ (fun v hv => ?_)
    obtain ⟨x_17, x_18, s_19⟩ := v
    obtain ⟨rfl, rhs_20, rhn_21⟩ := hv
    have hs_20 : RM s s_19 := rhs_20
    have hn_21 : 0 ≤ x_18.toInt := rhn_21
    clear rhs_20 rhn_21
    show ok (F_X12_laysOthers_B34 a1 x_18 s_19) _
    unfold F_X12_laysOthers_B34
    refine ok_ite (fun h_22 => ?_) (fun h_23 => ?_)
    · have hk_24 := im_112 hs_20.1
      have hk_25 := rm_k 89 112 hs_20 (by decide)
      have hc_26 := r_le (rfl : (s_19.1 89 112).toInt = _) (rfl : (x_18).toInt = _) h_22
      exact ok_some (lp_inr (hs_20))
    · have hk_27 := im_112 hs_20.1
      have hk_28 := rm_k 89 112 hs_20 (by decide)
      have hc_29 := r_nle (rfl : (s_19.1 89 112).toInt = _) (rfl : (x_18).toInt = _) h_23
      refine ok_ite (fun h_30 => ?_) (fun h_31 => ?_)
      · have hc_32 := r_eq (rfl : (x_18).toInt = _) (rfl : (a1).toInt = _) h_30
        unfold F_X12_laysOthers_115
        exact ok_some (lp_inl ⟨rfl, hs_20, (up_0 (x := x_18) (by omega) (by omega))⟩ (up_t (x := x_18) (by omega)))
      · have hc_33 := r_ne (rfl : (x_18).toInt = _) (rfl : (a1).toInt = _) h_31
        have hk_34 := im_112 hR.1
        have hk_35 := im_1049 hs_20.1
        have hk_36 := rm_k 89 1049 hs_20 (by decide)
        have hk_37 := im_1049 hR.1
        have hk_38 := im_118 hs_20.1
        have hk_39 := rm_k 89 118 hs_20 (by decide)
        have hk_40 := im_118 hR.1
        refine ok_b2 (ok_rm2 (C := fun (v : Int64) => 0 ≤ v.toInt ∧ v.toInt ≤ 1000000) hs_20 (T_X12_sureOf ⟨by omega, by omega⟩ hs_20.1)) (fun v_41 s_42 (hq : (0 ≤ v_41.toInt ∧ v_41.toInt ≤ 1000000) ∧ RM s s_42) => ?_)
        obtain ⟨hv_44, hs_43⟩ := hq
        unfold F_X12_laysOthers_L63
        refine ok_whl (fun v => a1 = v.1 ∧ x_18 = v.2.1 ∧ v_41 = v.2.2.1 ∧ RM s v.2.2.2.2 ∧ (v.2.2.2.1).toInt ≤ 13) (fun v => mDn v.2.2.2.1) ⟨rfl, rfl, rfl, hs_43, (show (c8 13).toInt ≤ 13 by rw [((by decide : (c8 13).toInt = 13) : (c8 13).toInt = 13)]; omega)⟩ (fun v hv => ?_)
        obtain ⟨x_45, x_46, x_47, x_48, s_49⟩ := v
        obtain ⟨rfl, rfl, rfl, rhs_50, rhn_51⟩ := hv
        have hs_50 : RM s s_49 := rhs_50
        have hn_51 : x_48.toInt ≤ 13 := rhn_51
        clear rhs_50 rhn_51
        show ok (F_X12_laysOthers_B63 a1 x_18 v_41 x_48 s_49) _
        unfold F_X12_laysOthers_B63
        refine ok_ite (fun h_52 => ?_) (fun h_53 => ?_)
        · have hc_54 := r_lt (rfl : (x_48).toInt = _) (by decide : (ci 1).toInt = 1) h_52
          refine ok_b1r ?_
          unfold F_X12_laysOthers_115
          exact ok_some (lp_inl ⟨rfl, hs_50, (up_0 (x := x_18) (by omega) (by omega))⟩ (up_t (x := x_18) (by omega)))
        · have hc_55 := r_nlt (rfl : (x_48).toInt = _) (by decide : (ci 1).toInt = 1) h_53
          refine ok_nn (ix_ok (rfl : (x_48).toInt = _) (by omega) (by omega)) ?_
          refine ok_nn (ix_ok (r_sub (rfl : (x_48).toInt = _) (by decide : (ci 1).toInt = 1) (by omega) (by omega)) (by omega) (by omega)) ?_
          refine ok_nn (ix_ok (rfl : (x_48).toInt = _) (by omega) (by omega)) ?_
          extract_lets +onlyGivenNames s_56
          have hs_57 : RM s s_56 := (RM_muL hs_50)
          clear_value s_56
          exact ok_some (lp_inl ⟨rfl, rfl, rfl, hs_57, (dn_le (x := x_48) (by omega) (by omega))⟩ (dn_i (x := x_48) (by omega)))
  · have hc_58 := r_nle (by decide : (c8 14).toInt = 14) (rfl : (x_4).toInt = _) h_9
    refine ok_ite (fun h_59 => ?_) (fun h_60 => ?_)
    · have hc_61 := r_eq (rfl : (x_4).toInt = _) (by decide : (ci 1).toInt = 1) h_59
      unfold F_X12_laysOthers_25
      refine ok_nn (ix_ok (rfl : (x_4).toInt = _) (by omega) (by omega)) ?_
      extract_lets +onlyGivenNames s_62
      have hs_63 : RM s s_62 := (RM_muL hs_6)
      clear_value s_62
      exact ok_some (lp_inl ⟨rfl, hs_63, (up_0 (x := x_4) (by omega) (by omega))⟩ (up_t (x := x_4) (by omega)))
    · have hc_64 := r_ne (rfl : (x_4).toInt = _) (by decide : (ci 1).toInt = 1) h_60
      unfold F_X12_laysOthers_25
      refine ok_nn (ix_ok (rfl : (x_4).toInt = _) (by omega) (by omega)) ?_
      extract_lets +onlyGivenNames s_65
      have hs_66 : RM s s_65 := (RM_muL hs_6)
      clear_value s_65
      exact ok_some (lp_inl ⟨rfl, hs_66, (up_0 (x := x_4) (by omega) (by omega))⟩ (up_t (x := x_4) (by omega)))
theorem T_X12_counted {a1 : Int32} {a2 : Int32} {s : mG} (hI : IM s) : ok (F_X12_counted a1 a2 s) (fun τ => (True) ∧ RM s τ.2) := by
  have hR : RM s s := RM_refl hI
  unfold F_X12_counted
  refine ok_b1 (T_X12_isGuest hR.1) (fun v_1 (hv_2 : QG v_1 a1 (s.1 89 112)) => ?_)
  refine ok_ite (fun h_3 => ?_) (fun h_4 => ?_)
  · have hc_5 := r_eq (rfl : (v_1).toInt = _) (by decide : (0 : Int32).toInt = 0) h_3
    unfold F_X12_counted_18
    exact ok_some ⟨trivial, hR⟩
  · have hc_6 := r_ne (rfl : (v_1).toInt = _) (by decide : (0 : Int32).toInt = 0) h_4
    have hk_7 := im_112 hR.1
    have hk_8 := im_115 hR.1
    have hf_9 := hv_2.2 h_4
    refine ok_b1 (T_X12_isIn hR.1) (fun v_10 (hv_11 : QI v_10 a2 (ci 0) (c8 12)) => ?_)
    refine ok_ite (fun h_12 => ?_) (fun h_13 => ?_)
    · have hc_14 := r_eq (rfl : (v_10).toInt = _) (by decide : (0 : Int32).toInt = 0) h_12
      unfold F_X12_counted_18
      exact ok_some ⟨trivial, hR⟩
    · have hc_15 := r_ne (rfl : (v_10).toInt = _) (by decide : (0 : Int32).toInt = 0) h_13
      have hf_16 := isin_f (a := a2) (by decide : (ci 0).toInt = 0) (by decide : (c8 12).toInt = 12) (hv_11.2 h_13)
      refine ok_b1 (ok_rm hR (T_X12_laysOthers hR.1)) (fun s_17 (hs_18 : RM s s_17) => ?_)
      have hk_19 := im_112 hs_18.1
      have hk_20 := rm_k 89 112 hs_18 (by decide)
      have hk_21 := im_1049 hs_18.1
      have hk_22 := rm_k 89 1049 hs_18 (by decide)
      have hk_23 := im_1049 hR.1
      have hk_24 := im_118 hs_18.1
      have hk_25 := rm_k 89 118 hs_18 (by decide)
      have hk_26 := im_118 hR.1
      refine ok_b2 (ok_rm2 (C := fun (v : Int64) => 0 ≤ v.toInt ∧ v.toInt ≤ 1000000) hs_18 (T_X12_sureOf ⟨by omega, by omega⟩ hs_18.1)) (fun v_27 s_28 (hq : (0 ≤ v_27.toInt ∧ v_27.toInt ≤ 1000000) ∧ RM s s_28) => ?_)
      obtain ⟨hv_30, hs_29⟩ := hq
      refine ok_nn (ix_ok (rfl : (a2).toInt = _) (by omega) (by omega)) ?_
      extract_lets +onlyGivenNames v_31
      clear_value v_31
      refine ok_nn (ix_ok (r_add (rfl : (a2).toInt = _) (by decide : (ci 1).toInt = 1) (by omega) (by omega)) (by omega) (by omega)) ?_
      extract_lets +onlyGivenNames v_32
      clear_value v_32
      refine ok_ite (fun h_33 => ?_) (fun h_34 => ?_)
      · exact ok_some ⟨trivial, hs_29⟩
      · refine ok_nn (lgc_ne h_34) ?_
        extract_lets +onlyGivenNames v_35
        clear_value v_35
        exact ok_some ⟨trivial, hs_29⟩
end
