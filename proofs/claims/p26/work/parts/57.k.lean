noncomputable section
theorem T_X12_fire {a1 : Int32} {a2 : Int32} {s : mG} (hI : IM s) : ok (F_X12_fire a1 a2 s) (fun τ => (True) ∧ RM s τ.2) := by
  have hR : RM s s := RM_refl hI
  unfold F_X12_fire
  refine ok_b1 (T_X12_isIn hR.1) (fun v_1 (hv_2 : QI v_1 a1 (ci 1) (c8 99)) => ?_)
  refine ok_ite (fun h_3 => ?_) (fun h_4 => ?_)
  · have hc_5 := r_eq (rfl : (v_1).toInt = _) (by decide : (0 : Int32).toInt = 0) h_3
    unfold F_X12_fire_30
    exact ok_some ⟨trivial, hR⟩
  · have hc_6 := r_ne (rfl : (v_1).toInt = _) (by decide : (0 : Int32).toInt = 0) h_4
    have hf_7 := isin_f (a := a1) (by decide : (ci 1).toInt = 1) (by decide : (c8 99).toInt = 99) (hv_2.2 h_4)
    refine ok_b1 (T_X12_isIn hR.1) (fun v_8 (hv_9 : QI v_8 a2 (ci 0) (ci 1)) => ?_)
    refine ok_ite (fun h_10 => ?_) (fun h_11 => ?_)
    · have hc_12 := r_eq (rfl : (v_8).toInt = _) (by decide : (0 : Int32).toInt = 0) h_10
      refine ok_b1 (T_X12_isIn hR.1) (fun v_13 (hv_14 : QI v_13 a2 (c8 10) (c8 13)) => ?_)
      refine ok_ite (fun h_15 => ?_) (fun h_16 => ?_)
      · have hc_17 := r_eq (rfl : (v_13).toInt = _) (by decide : (0 : Int32).toInt = 0) h_15
        unfold F_X12_fire_30
        exact ok_some ⟨trivial, hR⟩
      · have hc_18 := r_ne (rfl : (v_13).toInt = _) (by decide : (0 : Int32).toInt = 0) h_16
        have hf_19 := isin_f (a := a2) (by decide : (c8 10).toInt = 10) (by decide : (c8 13).toInt = 13) (hv_14.2 h_16)
        unfold F_X12_fire_32
        refine ok_b1 (ok_rm hR (T_X12_laysFloors hR.1)) (fun s_20 (hs_21 : RM s s_20) => ?_)
        extract_lets +onlyGivenNames s_22
        have hs_23 : RM s s_22 := (RM_muL hs_21)
        clear_value s_22
        refine ok_b1 (ok_rm hs_23 (T_fire_searches hs_23.1)) (fun s_24 (hs_25 : RM s s_24) => ?_)
        refine ok_ite (fun h_26 => ?_) (fun h_27 => ?_)
        · have hc_28 := r_eq (rfl : (a2).toInt = _) (by decide : (0 : Int32).toInt = 0) h_26
          extract_lets +onlyGivenNames v_29
          clear_value v_29
          exact ok_some ⟨trivial, hs_25⟩
        · have hc_30 := r_ne (rfl : (a2).toInt = _) (by decide : (0 : Int32).toInt = 0) h_27
          refine ok_ite (fun h_31 => ?_) (fun h_32 => ?_)
          · have hc_33 := r_eq (rfl : (a2).toInt = _) (by decide : (ci 1).toInt = 1) h_31
            exact ok_some ⟨trivial, hs_25⟩
          · have hc_34 := r_ne (rfl : (a2).toInt = _) (by decide : (ci 1).toInt = 1) h_32
            refine ok_ite (fun h_35 => ?_) (fun h_36 => ?_)
            · exact ok_some ⟨trivial, hs_25⟩
            · refine ok_nn (ix_ok (r_sub (rfl : (a2).toInt = _) (by decide : (c8 10).toInt = 10) (by omega) (by omega)) (by omega) (by omega)) ?_
              extract_lets +onlyGivenNames v_37
              clear_value v_37
              exact ok_some ⟨trivial, hs_25⟩
    · have hc_38 := r_ne (rfl : (v_8).toInt = _) (by decide : (0 : Int32).toInt = 0) h_11
      have hf_39 := isin_f (a := a2) (by decide : (ci 0).toInt = 0) (by decide : (ci 1).toInt = 1) (hv_9.2 h_11)
      unfold F_X12_fire_32
      refine ok_b1 (ok_rm hR (T_X12_laysFloors hR.1)) (fun s_40 (hs_41 : RM s s_40) => ?_)
      extract_lets +onlyGivenNames s_42
      have hs_43 : RM s s_42 := (RM_muL hs_41)
      clear_value s_42
      refine ok_b1 (ok_rm hs_43 (T_fire_searches hs_43.1)) (fun s_44 (hs_45 : RM s s_44) => ?_)
      refine ok_ite (fun h_46 => ?_) (fun h_47 => ?_)
      · have hc_48 := r_eq (rfl : (a2).toInt = _) (by decide : (0 : Int32).toInt = 0) h_46
        extract_lets +onlyGivenNames v_49
        clear_value v_49
        exact ok_some ⟨trivial, hs_45⟩
      · have hc_50 := r_ne (rfl : (a2).toInt = _) (by decide : (0 : Int32).toInt = 0) h_47
        refine ok_ite (fun h_51 => ?_) (fun h_52 => ?_)
        · have hc_53 := r_eq (rfl : (a2).toInt = _) (by decide : (ci 1).toInt = 1) h_51
          exact ok_some ⟨trivial, hs_45⟩
        · have hc_54 := r_ne (rfl : (a2).toInt = _) (by decide : (ci 1).toInt = 1) h_52
          refine ok_ite (fun h_55 => ?_) (fun h_56 => ?_)
          · exact ok_some ⟨trivial, hs_45⟩
          · refine ok_nn (ix_ok (r_sub (rfl : (a2).toInt = _) (by decide : (c8 10).toInt = 10) (by omega) (by omega)) (by omega) (by omega)) ?_
            extract_lets +onlyGivenNames v_57
            clear_value v_57
            exact ok_some ⟨trivial, hs_45⟩
theorem T_X12_laysDoors {s : mG} (hI : IM s) : ok (F_X12_laysDoors s) (RM s) := by
  have hR : RM s s := RM_refl hI
  unfold F_X12_laysDoors
  unfold F_X12_laysDoors_L2
  refine ok_whl (fun v => RM s v.2 ∧ 0 ≤ (v.1).toInt) (fun v => mUp v.1) ⟨hR, (show 0 ≤ (ci 0).toInt by rw [((by decide : (ci 0).toInt = 0) : (ci 0).toInt = 0)]; omega)⟩ (fun v hv => ?_)
  obtain ⟨x_22, s_23⟩ := v
  obtain ⟨rhs_24, rhn_25⟩ := hv
  have hs_24 : RM s s_23 := rhs_24
  have hn_25 : 0 ≤ x_22.toInt := rhn_25
  clear rhs_24 rhn_25
  show ok (F_X12_laysDoors_B2 x_22 s_23) _
  unfold F_X12_laysDoors_B2
  refine ok_ite (fun h_26 => ?_) (fun h_27 => ?_)
  · have hc_28 := r_le (by decide : (c8 24).toInt = 24) (rfl : (x_22).toInt = _) h_26
    exact ok_some (lp_inr (hs_24))
  · have hc_29 := r_nle (by decide : (c8 24).toInt = 24) (rfl : (x_22).toInt = _) h_27
    refine ok_nn (ix_ok (r_mul (by decide : (ci 2).toInt = 2) (rfl : (x_22).toInt = _) (by omega) (by omega)) (by omega) (by omega)) ?_
    extract_lets +onlyGivenNames s_30
    have hs_31 : RM s s_30 := (RM_mw hs_24 (by decide))
    clear_value s_30
    refine ok_nn (ix_ok (r_add (r_mul (by decide : (ci 2).toInt = 2) (rfl : (x_22).toInt = _) (by omega) (by omega)) (by decide : (ci 1).toInt = 1) (by omega) (by omega)) (by omega) (by omega)) ?_
    extract_lets +onlyGivenNames s_32
    have hs_33 : RM s s_32 := (RM_mw hs_31 (by decide))
    clear_value s_32
    extract_lets +onlyGivenNames v_34
    clear_value v_34
    unfold F_X12_laysDoors_L45
    refine ok_whl (fun v => x_22 = v.1 ∧ v_34 = v.2.1 ∧ RM s v.2.2.2 ∧ 0 ≤ (v.2.2.1).toInt) (fun v => mUp v.2.2.1) ⟨rfl, rfl, hs_33, (show 0 ≤ (ci 0).toInt by rw [((by decide : (ci 0).toInt = 0) : (ci 0).toInt = 0)]; omega)⟩ (fun v hv => ?_)
    obtain ⟨x_35, x_36, x_37, s_38⟩ := v
    obtain ⟨rfl, rfl, rhs_39, rhn_40⟩ := hv
    have hs_39 : RM s s_38 := rhs_39
    have hn_40 : 0 ≤ x_37.toInt := rhn_40
    clear rhs_39 rhn_40
    show ok (F_X12_laysDoors_B45 x_22 v_34 x_37 s_38) _
    unfold F_X12_laysDoors_B45
    refine ok_ite (fun h_41 => ?_) (fun h_42 => ?_)
    · have hk_43 := im_112 hs_39.1
      have hk_44 := rm_k 89 112 hs_39 (by decide)
      have hc_45 := r_le (rfl : (s_38.1 89 112).toInt = _) (rfl : (x_37).toInt = _) h_41
      exact ok_some (lp_inr (lp_inl ⟨hs_39, (up_0 (x := x_22) (by omega) (by omega))⟩ (up_t (x := x_22) (by omega))))
    · have hk_46 := im_112 hs_39.1
      have hk_47 := rm_k 89 112 hs_39 (by decide)
      have hc_48 := r_nle (rfl : (s_38.1 89 112).toInt = _) (rfl : (x_37).toInt = _) h_42
      refine ok_nn (ix_ok (r_add (by decide : (ci 3).toInt = 3) (rfl : (x_37).toInt = _) (by omega) (by omega)) (by omega) (by omega)) ?_
      refine ok_ite (fun h_49 => ?_) (fun h_50 => ?_)
      · unfold F_X12_laysDoors_161
        exact ok_some (lp_inl ⟨rfl, rfl, hs_39, (up_0 (x := x_37) (by omega) (by omega))⟩ (up_t (x := x_37) (by omega)))
      · refine ok_nn (ix_ok (r_add (by decide : (c8 27).toInt = 27) (rfl : (x_37).toInt = _) (by omega) (by omega)) (by omega) (by omega)) ?_
        have hk_51 := im_112 hR.1
        refine ok_b2 (ok_rm2 (C := fun (v : Int32) => 0 ≤ v.toInt ∧ v.toInt ≤ 1000) hs_39 (T_X12_saysIn ⟨by omega, by omega⟩ hs_39.1)) (fun v_52 s_53 (hq : (0 ≤ v_52.toInt ∧ v_52.toInt ≤ 1000) ∧ RM s s_53) => ?_)
        obtain ⟨hv_55, hs_54⟩ := hq
        refine ok_nn (ix_ok (r_add (by decide : (c8 27).toInt = 27) (rfl : (x_37).toInt = _) (by omega) (by omega)) (by omega) (by omega)) ?_
        have hk_56 := im_112 hs_54.1
        have hk_57 := rm_k 89 112 hs_54 (by decide)
        refine ok_b2 (ok_rm2 (C := fun (v : Int32) => 0 ≤ v.toInt ∧ v.toInt ≤ 1000) hs_54 (T_X12_saysIn ⟨by omega, by omega⟩ hs_54.1)) (fun v_58 s_59 (hq : (0 ≤ v_58.toInt ∧ v_58.toInt ≤ 1000) ∧ RM s s_59) => ?_)
        obtain ⟨hv_61, hs_60⟩ := hq
        extract_lets +onlyGivenNames v_62
        clear_value v_62
        refine ok_nn (ix_ok (r_mul (by decide : (ci 2).toInt = 2) (rfl : (x_22).toInt = _) (by omega) (by omega)) (by omega) (by omega)) ?_
        refine ok_nn (ix_ok (r_mul (by decide : (ci 2).toInt = 2) (rfl : (x_22).toInt = _) (by omega) (by omega)) (by omega) (by omega)) ?_
        extract_lets +onlyGivenNames s_63
        have hs_64 : RM s s_63 := (RM_mw hs_60 (by decide))
        clear_value s_63
        extract_lets +onlyGivenNames v_65
        have he_66 : v_65.toInt = ((2 * (x_22).toInt) + 1) := (r_add (r_mul (by decide : (ci 2).toInt = 2) (rfl : (x_22).toInt = _) (by omega) (by omega)) (by decide : (ci 1).toInt = 1) (by omega) (by omega))
        clear_value v_65
        refine ok_nn (ix_ok he_66 (by omega) (by omega)) ?_
        refine ok_nn (ix_ok he_66 (by omega) (by omega)) ?_
        extract_lets +onlyGivenNames s_67
        have hs_68 : RM s s_67 := (RM_mw hs_64 (by decide))
        clear_value s_67
        unfold F_X12_laysDoors_161
        exact ok_some (lp_inl ⟨rfl, rfl, hs_68, (up_0 (x := x_37) (by omega) (by omega))⟩ (up_t (x := x_37) (by omega)))
theorem T_X12_mostBy {s : mG} {a1 : Int32} {a2 : Int32} {a3 : Int32} (h_a1 : 0 ≤ a1.toInt ∧ a1.toInt ≤ 23) (h_a2 : 0 ≤ a2.toInt ∧ a2.toInt ≤ 1) (hI : IM s) : ok (F_X12_mostBy s a1 a2 a3) (fun (v : Int32) => True) := by
  have hR : RM s s := RM_refl hI
  unfold F_X12_mostBy
  refine ok_nn (ix_ok (r_add (r_mul (by decide : (ci 2).toInt = 2) (r_add (rfl : (a1).toInt = _) (by decide : (ci 1).toInt = 1) (by omega) (by omega)) (by omega) (by omega)) (rfl : (a2).toInt = _) (by omega) (by omega)) (by omega) (by omega)) ?_
  refine ok_nn (ix_ok (r_sub (r_add (r_mul (by decide : (ci 2).toInt = 2) (r_add (rfl : (a1).toInt = _) (by decide : (ci 1).toInt = 1) (by omega) (by omega)) (by omega) (by omega)) (by decide : (ci 1).toInt = 1) (by omega) (by omega)) (rfl : (a2).toInt = _) (by omega) (by omega)) (by omega) (by omega)) ?_
  refine ok_b1 (T_X12_greater rfl hR.1) (fun v_1 _ => ?_)
  exact ok_some trivial
theorem T_X12_stands {a1 : Int32} {a2 : Int32} {s : mG} (hI : IM s) : ok (F_X12_stands a1 a2 s) (fun τ => (True) ∧ RM s τ.2) := by
  have hR : RM s s := RM_refl hI
  unfold F_X12_stands
  refine ok_b1 (T_X12_isIn hR.1) (fun v_1 (hv_2 : QI v_1 a1 (ci 0) (c16 999)) => ?_)
  refine ok_ite (fun h_3 => ?_) (fun h_4 => ?_)
  · have hc_5 := r_eq (rfl : (v_1).toInt = _) (by decide : (0 : Int32).toInt = 0) h_3
    unfold F_X12_stands_26
    exact ok_some ⟨trivial, hR⟩
  · have hc_6 := r_ne (rfl : (v_1).toInt = _) (by decide : (0 : Int32).toInt = 0) h_4
    have hf_7 := isin_f (a := a1) (by decide : (ci 0).toInt = 0) (by decide : (c16 999).toInt = 999) (hv_2.2 h_4)
    refine ok_ite (fun h_8 => ?_) (fun h_9 => ?_)
    · have hc_10 := r_eq (rfl : (a2).toInt = _) (by decide : (0 : Int32).toInt = 0) h_8
      unfold F_X12_stands_28
      refine ok_b1 (ok_rm hR (T_X12_laysDoors hR.1)) (fun s_11 (hs_12 : RM s s_11) => ?_)
      extract_lets +onlyGivenNames s_13
      have hs_14 : RM s s_13 := (RM_mw hs_12 (by decide))
      clear_value s_13
      extract_lets +onlyGivenNames s_15
      have hs_16 : RM s s_15 := (RM_mw hs_14 (by decide))
      clear_value s_15
      unfold F_X12_stands_L51
      refine ok_whl (fun v => a1 = v.1 ∧ a2 = v.2.1 ∧ RM s v.2.2.2 ∧ (v.2.2.1).toInt ≤ 23) (fun v => mDn v.2.2.1) ⟨rfl, rfl, hs_16, (show (c8 23).toInt ≤ 23 by rw [((by decide : (c8 23).toInt = 23) : (c8 23).toInt = 23)]; omega)⟩ (fun v hv => ?_)
      obtain ⟨x_26, x_27, x_28, s_29⟩ := v
      obtain ⟨rfl, rfl, rhs_30, rhn_31⟩ := hv
      have hs_30 : RM s s_29 := rhs_30
      have hn_31 : x_28.toInt ≤ 23 := rhn_31
      clear rhs_30 rhn_31
      show ok (F_X12_stands_B51 a1 a2 x_28 s_29) _
      unfold F_X12_stands_B51
      refine ok_ite (fun h_32 => ?_) (fun h_33 => ?_)
      · have hc_34 := r_lt (rfl : (x_28).toInt = _) (by decide : (0 : Int32).toInt = 0) h_32
        refine ok_ite (fun h_35 => ?_) (fun h_36 => ?_)
        · have hc_37 := r_eq (rfl : (a2).toInt = _) (by decide : (0 : Int32).toInt = 0) h_35
          refine ok_b1 (T_X12_greater (rfl : (s_29.1 104 0).toInt = _) hs_30.1) (fun v_38 _ => ?_)
          exact ok_some (lp_inr (⟨trivial, hs_30⟩))
        · have hc_40 := r_ne (rfl : (a2).toInt = _) (by decide : (0 : Int32).toInt = 0) h_36
          refine ok_ite (fun h_41 => ?_) (fun h_42 => ?_)
          · have hc_43 := r_lt (rfl : (s_29.1 104 0).toInt = _) (rfl : (s_29.1 104 1).toInt = _) h_41
            refine ok_b1r ?_
            unfold F_X12_stands_157
            unfold F_X12_stands_L161
            refine ok_whl (fun v => a1 = v.1 ∧ a2 = v.2.1 ∧ RM s v.2.2.2.2 ∧ 0 ≤ (v.2.2.2.1).toInt ∧ (0 ≤ (v.2.2.1).toInt ∧ (v.2.2.1).toInt ≤ 1)) (fun v => mUp v.2.2.2.1) ⟨rfl, rfl, hs_30, (show 0 ≤ (ci 1).toInt by rw [((by decide : (ci 1).toInt = 1) : (ci 1).toInt = 1)]; omega), (show 0 ≤ (ci 1).toInt ∧ (ci 1).toInt ≤ 1 by rw [((by decide : (ci 1).toInt = 1) : (ci 1).toInt = 1)]; exact ⟨by omega, by omega⟩)⟩ (fun v hv => ?_)
            obtain ⟨x_46, x_47, x_48, x_49, s_50⟩ := v
            obtain ⟨rfl, rfl, rhs_51, rhn_52, rhn_53⟩ := hv
            have hs_51 : RM s s_50 := rhs_51
            have hn_52 : 0 ≤ x_49.toInt := rhn_52
            have hn_53 : 0 ≤ (x_48).toInt ∧ (x_48).toInt ≤ 1 := rhn_53
            clear rhs_51 rhn_52 rhn_53
            show ok (F_X12_stands_B161 a1 a2 x_48 x_49 s_50) _
            unfold F_X12_stands_B161
            refine ok_ite (fun h_54 => ?_) (fun h_55 => ?_)
            · have hc_56 := r_lt (r_sub (rfl : (a2).toInt = _) (by decide : (c8 10).toInt = 10) (by omega) (by omega)) (rfl : (x_49).toInt = _) h_54
              exact ok_some (lp_inr (⟨trivial, hs_51⟩))
            · have hc_57 := r_nlt (r_sub (rfl : (a2).toInt = _) (by decide : (c8 10).toInt = 10) (by omega) (by omega)) (rfl : (x_49).toInt = _) h_55
              refine ok_nn (ix_ok (r_add (r_mul (by decide : (ci 2).toInt = 2) (rfl : (x_49).toInt = _) (by omega) (by omega)) (rfl : (x_48).toInt = _) (by omega) (by omega)) (by omega) (by omega)) ?_
              extract_lets +onlyGivenNames v_58
              clear_value v_58
              refine ok_nn (ix_ok (r_sub (r_add (r_mul (by decide : (ci 2).toInt = 2) (rfl : (x_49).toInt = _) (by omega) (by omega)) (by decide : (ci 1).toInt = 1) (by omega) (by omega)) (rfl : (x_48).toInt = _) (by omega) (by omega)) (by omega) (by omega)) ?_
              extract_lets +onlyGivenNames v_59
              clear_value v_59
              refine ok_ite (fun h_60 => ?_) (fun h_61 => ?_)
              · have hc_62 := r_lt (rfl : (v_58).toInt = _) (rfl : (v_59).toInt = _) h_60
                unfold F_X12_stands_219
                unfold F_X12_stands_223
                exact ok_some (lp_inl ⟨rfl, rfl, hs_51, (up_0 (x := x_49) (by omega) (by omega)), (show 0 ≤ ((ci 1) - x_48).toInt ∧ ((ci 1) - x_48).toInt ≤ 1 by rw [((r_sub (by decide : (ci 1).toInt = 1) (rfl : (x_48).toInt = _) (by omega) (by omega)) : ((ci 1) - x_48).toInt = (1 - (x_48).toInt))]; exact ⟨by omega, by omega⟩)⟩ (up_t (x := x_49) (by omega)))
              · have hc_63 := r_nlt (rfl : (v_58).toInt = _) (rfl : (v_59).toInt = _) h_61
                refine ok_ite (fun h_64 => ?_) (fun h_65 => ?_)
                · have hc_66 := r_eq (rfl : (v_59).toInt = _) (rfl : (v_58).toInt = _) h_64
                  refine ok_ite (fun h_67 => ?_) (fun h_68 => ?_)
                  · have hc_69 := r_eq (rfl : (x_48).toInt = _) (by decide : (ci 1).toInt = 1) h_67
                    unfold F_X12_stands_219
                    unfold F_X12_stands_223
                    exact ok_some (lp_inl ⟨rfl, rfl, hs_51, (up_0 (x := x_49) (by omega) (by omega)), (show 0 ≤ ((ci 1) - x_48).toInt ∧ ((ci 1) - x_48).toInt ≤ 1 by rw [((r_sub (by decide : (ci 1).toInt = 1) (rfl : (x_48).toInt = _) (by omega) (by omega)) : ((ci 1) - x_48).toInt = (1 - (x_48).toInt))]; exact ⟨by omega, by omega⟩)⟩ (up_t (x := x_49) (by omega)))
                  · have hc_70 := r_ne (rfl : (x_48).toInt = _) (by decide : (ci 1).toInt = 1) h_68
                    unfold F_X12_stands_223
                    exact ok_some (lp_inl ⟨rfl, rfl, hs_51, (up_0 (x := x_49) (by omega) (by omega)), (show 0 ≤ (x_48).toInt ∧ (x_48).toInt ≤ 1 from ⟨by omega, by omega⟩)⟩ (up_t (x := x_49) (by omega)))
                · have hc_71 := r_ne (rfl : (v_59).toInt = _) (rfl : (v_58).toInt = _) h_65
                  unfold F_X12_stands_223
                  exact ok_some (lp_inl ⟨rfl, rfl, hs_51, (up_0 (x := x_49) (by omega) (by omega)), (show 0 ≤ (x_48).toInt ∧ (x_48).toInt ≤ 1 from ⟨by omega, by omega⟩)⟩ (up_t (x := x_49) (by omega)))
          · have hc_72 := r_nlt (rfl : (s_29.1 104 0).toInt = _) (rfl : (s_29.1 104 1).toInt = _) h_42
            refine ok_b1r ?_
            unfold F_X12_stands_157
            unfold F_X12_stands_L161
            refine ok_whl (fun v => a1 = v.1 ∧ a2 = v.2.1 ∧ RM s v.2.2.2.2 ∧ 0 ≤ (v.2.2.2.1).toInt ∧ (0 ≤ (v.2.2.1).toInt ∧ (v.2.2.1).toInt ≤ 1)) (fun v => mUp v.2.2.2.1) ⟨rfl, rfl, hs_30, (show 0 ≤ (ci 1).toInt by rw [((by decide : (ci 1).toInt = 1) : (ci 1).toInt = 1)]; omega), (show 0 ≤ (ci 0).toInt ∧ (ci 0).toInt ≤ 1 by rw [((by decide : (ci 0).toInt = 0) : (ci 0).toInt = 0)]; exact ⟨by omega, by omega⟩)⟩ (fun v hv => ?_)
            obtain ⟨x_73, x_74, x_75, x_76, s_77⟩ := v
            obtain ⟨rfl, rfl, rhs_78, rhn_79, rhn_80⟩ := hv
            have hs_78 : RM s s_77 := rhs_78
            have hn_79 : 0 ≤ x_76.toInt := rhn_79
            have hn_80 : 0 ≤ (x_75).toInt ∧ (x_75).toInt ≤ 1 := rhn_80
            clear rhs_78 rhn_79 rhn_80
            show ok (F_X12_stands_B161 a1 a2 x_75 x_76 s_77) _
            unfold F_X12_stands_B161
            refine ok_ite (fun h_81 => ?_) (fun h_82 => ?_)
            · have hc_83 := r_lt (r_sub (rfl : (a2).toInt = _) (by decide : (c8 10).toInt = 10) (by omega) (by omega)) (rfl : (x_76).toInt = _) h_81
              exact ok_some (lp_inr (⟨trivial, hs_78⟩))
            · have hc_84 := r_nlt (r_sub (rfl : (a2).toInt = _) (by decide : (c8 10).toInt = 10) (by omega) (by omega)) (rfl : (x_76).toInt = _) h_82
              refine ok_nn (ix_ok (r_add (r_mul (by decide : (ci 2).toInt = 2) (rfl : (x_76).toInt = _) (by omega) (by omega)) (rfl : (x_75).toInt = _) (by omega) (by omega)) (by omega) (by omega)) ?_
              extract_lets +onlyGivenNames v_85
              clear_value v_85
              refine ok_nn (ix_ok (r_sub (r_add (r_mul (by decide : (ci 2).toInt = 2) (rfl : (x_76).toInt = _) (by omega) (by omega)) (by decide : (ci 1).toInt = 1) (by omega) (by omega)) (rfl : (x_75).toInt = _) (by omega) (by omega)) (by omega) (by omega)) ?_
              extract_lets +onlyGivenNames v_86
              clear_value v_86
              refine ok_ite (fun h_87 => ?_) (fun h_88 => ?_)
              · have hc_89 := r_lt (rfl : (v_85).toInt = _) (rfl : (v_86).toInt = _) h_87
                unfold F_X12_stands_219
                unfold F_X12_stands_223
                exact ok_some (lp_inl ⟨rfl, rfl, hs_78, (up_0 (x := x_76) (by omega) (by omega)), (show 0 ≤ ((ci 1) - x_75).toInt ∧ ((ci 1) - x_75).toInt ≤ 1 by rw [((r_sub (by decide : (ci 1).toInt = 1) (rfl : (x_75).toInt = _) (by omega) (by omega)) : ((ci 1) - x_75).toInt = (1 - (x_75).toInt))]; exact ⟨by omega, by omega⟩)⟩ (up_t (x := x_76) (by omega)))
              · have hc_90 := r_nlt (rfl : (v_85).toInt = _) (rfl : (v_86).toInt = _) h_88
                refine ok_ite (fun h_91 => ?_) (fun h_92 => ?_)
                · have hc_93 := r_eq (rfl : (v_86).toInt = _) (rfl : (v_85).toInt = _) h_91
                  refine ok_ite (fun h_94 => ?_) (fun h_95 => ?_)
                  · have hc_96 := r_eq (rfl : (x_75).toInt = _) (by decide : (ci 1).toInt = 1) h_94
                    unfold F_X12_stands_219
                    unfold F_X12_stands_223
                    exact ok_some (lp_inl ⟨rfl, rfl, hs_78, (up_0 (x := x_76) (by omega) (by omega)), (show 0 ≤ ((ci 1) - x_75).toInt ∧ ((ci 1) - x_75).toInt ≤ 1 by rw [((r_sub (by decide : (ci 1).toInt = 1) (rfl : (x_75).toInt = _) (by omega) (by omega)) : ((ci 1) - x_75).toInt = (1 - (x_75).toInt))]; exact ⟨by omega, by omega⟩)⟩ (up_t (x := x_76) (by omega)))
                  · have hc_97 := r_ne (rfl : (x_75).toInt = _) (by decide : (ci 1).toInt = 1) h_95
                    unfold F_X12_stands_223
                    exact ok_some (lp_inl ⟨rfl, rfl, hs_78, (up_0 (x := x_76) (by omega) (by omega)), (show 0 ≤ (x_75).toInt ∧ (x_75).toInt ≤ 1 from ⟨by omega, by omega⟩)⟩ (up_t (x := x_76) (by omega)))
                · have hc_98 := r_ne (rfl : (v_86).toInt = _) (rfl : (v_85).toInt = _) h_92
                  unfold F_X12_stands_223
                  exact ok_some (lp_inl ⟨rfl, rfl, hs_78, (up_0 (x := x_76) (by omega) (by omega)), (show 0 ≤ (x_75).toInt ∧ (x_75).toInt ≤ 1 from ⟨by omega, by omega⟩)⟩ (up_t (x := x_76) (by omega)))
      · have hc_99 := r_nlt (rfl : (x_28).toInt = _) (by decide : (0 : Int32).toInt = 0) h_33
        unfold F_X12_stands_L58
        refine ok_whl (fun v => a1 = v.1 ∧ a2 = v.2.1 ∧ x_28 = v.2.2.1 ∧ RM s v.2.2.2.2 ∧ 0 ≤ (v.2.2.2.1).toInt) (fun v => mUp v.2.2.2.1) ⟨rfl, rfl, rfl, hs_30, (show 0 ≤ (ci 0).toInt by rw [((by decide : (ci 0).toInt = 0) : (ci 0).toInt = 0)]; omega)⟩ (fun v hv => ?_)
        obtain ⟨x_100, x_101, x_102, x_103, s_104⟩ := v
        obtain ⟨rfl, rfl, rfl, rhs_105, rhn_106⟩ := hv
        have hs_105 : RM s s_104 := rhs_105
        have hn_106 : 0 ≤ x_103.toInt := rhn_106
        clear rhs_105 rhn_106
        show ok (F_X12_stands_B58 a1 a2 x_28 x_103 s_104) _
        unfold F_X12_stands_B58
        refine ok_ite (fun h_107 => ?_) (fun h_108 => ?_)
        · have hc_109 := r_le (by decide : (ci 2).toInt = 2) (rfl : (x_103).toInt = _) h_107
          exact ok_some (lp_inr (lp_inl ⟨rfl, rfl, hs_105, (dn_le (x := x_28) (by omega) (by omega))⟩ (dn_i (x := x_28) (by omega))))
        · have hc_110 := r_nle (by decide : (ci 2).toInt = 2) (rfl : (x_103).toInt = _) h_108
          refine ok_nn (ix_ok (r_add (r_mul (by decide : (ci 2).toInt = 2) (rfl : (x_28).toInt = _) (by omega) (by omega)) (rfl : (x_103).toInt = _) (by omega) (by omega)) (by omega) (by omega)) ?_
          refine ok_ite (fun h_111 => ?_) (fun h_112 => ?_)
          · have hc_113 := r_eq (rfl : (x_28).toInt = _) (by decide : (c8 23).toInt = 23) h_111
            unfold F_X12_stands_103
            refine ok_nn (ix_ok (r_add (r_mul (by decide : (ci 2).toInt = 2) (rfl : (x_28).toInt = _) (by omega) (by omega)) (rfl : (x_103).toInt = _) (by omega) (by omega)) (by omega) (by omega)) ?_
            extract_lets +onlyGivenNames s_114
            have hs_115 : RM s s_114 := (RM_mw hs_105 (by decide))
            clear_value s_114
            exact ok_some (lp_inl ⟨rfl, rfl, rfl, hs_115, (up_0 (x := x_103) (by omega) (by omega))⟩ (up_t (x := x_103) (by omega)))
          · have hc_116 := r_ne (rfl : (x_28).toInt = _) (by decide : (c8 23).toInt = 23) h_112
            refine ok_b1 (T_X12_mostBy ⟨by omega, by omega⟩ ⟨by omega, by omega⟩ hs_105.1) (fun v_117 _ => ?_)
            unfold F_X12_stands_103
            refine ok_nn (ix_ok (r_add (r_mul (by decide : (ci 2).toInt = 2) (rfl : (x_28).toInt = _) (by omega) (by omega)) (rfl : (x_103).toInt = _) (by omega) (by omega)) (by omega) (by omega)) ?_
            extract_lets +onlyGivenNames s_119
            have hs_120 : RM s s_119 := (RM_mw hs_105 (by decide))
            clear_value s_119
            exact ok_some (lp_inl ⟨rfl, rfl, rfl, hs_120, (up_0 (x := x_103) (by omega) (by omega))⟩ (up_t (x := x_103) (by omega)))
    · have hc_121 := r_ne (rfl : (a2).toInt = _) (by decide : (0 : Int32).toInt = 0) h_9
      refine ok_b1 (T_X12_isIn hR.1) (fun v_122 (hv_123 : QI v_122 a2 (c8 10) (c8 33)) => ?_)
      refine ok_ite (fun h_124 => ?_) (fun h_125 => ?_)
      · have hc_126 := r_eq (rfl : (v_122).toInt = _) (by decide : (0 : Int32).toInt = 0) h_124
        unfold F_X12_stands_26
        exact ok_some ⟨trivial, hR⟩
      · have hc_127 := r_ne (rfl : (v_122).toInt = _) (by decide : (0 : Int32).toInt = 0) h_125
        have hf_128 := isin_f (a := a2) (by decide : (c8 10).toInt = 10) (by decide : (c8 33).toInt = 33) (hv_123.2 h_125)
        unfold F_X12_stands_28
        refine ok_b1 (ok_rm hR (T_X12_laysDoors hR.1)) (fun s_129 (hs_130 : RM s s_129) => ?_)
        extract_lets +onlyGivenNames s_131
        have hs_132 : RM s s_131 := (RM_mw hs_130 (by decide))
        clear_value s_131
        extract_lets +onlyGivenNames s_133
        have hs_134 : RM s s_133 := (RM_mw hs_132 (by decide))
        clear_value s_133
        unfold F_X12_stands_L51
        refine ok_whl (fun v => a1 = v.1 ∧ a2 = v.2.1 ∧ RM s v.2.2.2 ∧ (v.2.2.1).toInt ≤ 23) (fun v => mDn v.2.2.1) ⟨rfl, rfl, hs_134, (show (c8 23).toInt ≤ 23 by rw [((by decide : (c8 23).toInt = 23) : (c8 23).toInt = 23)]; omega)⟩ (fun v hv => ?_)
        obtain ⟨x_135, x_136, x_137, s_138⟩ := v
        obtain ⟨rfl, rfl, rhs_139, rhn_140⟩ := hv
        have hs_139 : RM s s_138 := rhs_139
        have hn_140 : x_137.toInt ≤ 23 := rhn_140
        clear rhs_139 rhn_140
        show ok (F_X12_stands_B51 a1 a2 x_137 s_138) _
        unfold F_X12_stands_B51
        refine ok_ite (fun h_141 => ?_) (fun h_142 => ?_)
        · have hc_143 := r_lt (rfl : (x_137).toInt = _) (by decide : (0 : Int32).toInt = 0) h_141
          refine ok_ite (fun h_144 => ?_) (fun h_145 => ?_)
          · have hc_146 := r_eq (rfl : (a2).toInt = _) (by decide : (0 : Int32).toInt = 0) h_144
            refine ok_b1 (T_X12_greater (rfl : (s_138.1 104 0).toInt = _) hs_139.1) (fun v_147 _ => ?_)
            exact ok_some (lp_inr (⟨trivial, hs_139⟩))
          · have hc_149 := r_ne (rfl : (a2).toInt = _) (by decide : (0 : Int32).toInt = 0) h_145
            refine ok_ite (fun h_150 => ?_) (fun h_151 => ?_)
            · have hc_152 := r_lt (rfl : (s_138.1 104 0).toInt = _) (rfl : (s_138.1 104 1).toInt = _) h_150
              refine ok_b1r ?_
              unfold F_X12_stands_157
              unfold F_X12_stands_L161
              refine ok_whl (fun v => a1 = v.1 ∧ a2 = v.2.1 ∧ RM s v.2.2.2.2 ∧ 0 ≤ (v.2.2.2.1).toInt ∧ (0 ≤ (v.2.2.1).toInt ∧ (v.2.2.1).toInt ≤ 1)) (fun v => mUp v.2.2.2.1) ⟨rfl, rfl, hs_139, (show 0 ≤ (ci 1).toInt by rw [((by decide : (ci 1).toInt = 1) : (ci 1).toInt = 1)]; omega), (show 0 ≤ (ci 1).toInt ∧ (ci 1).toInt ≤ 1 by rw [((by decide : (ci 1).toInt = 1) : (ci 1).toInt = 1)]; exact ⟨by omega, by omega⟩)⟩ (fun v hv => ?_)
              obtain ⟨x_153, x_154, x_155, x_156, s_157⟩ := v
              obtain ⟨rfl, rfl, rhs_158, rhn_159, rhn_160⟩ := hv
              have hs_158 : RM s s_157 := rhs_158
              have hn_159 : 0 ≤ x_156.toInt := rhn_159
              have hn_160 : 0 ≤ (x_155).toInt ∧ (x_155).toInt ≤ 1 := rhn_160
              clear rhs_158 rhn_159 rhn_160
              show ok (F_X12_stands_B161 a1 a2 x_155 x_156 s_157) _
              unfold F_X12_stands_B161
              refine ok_ite (fun h_161 => ?_) (fun h_162 => ?_)
              · have hc_163 := r_lt (r_sub (rfl : (a2).toInt = _) (by decide : (c8 10).toInt = 10) (by omega) (by omega)) (rfl : (x_156).toInt = _) h_161
                exact ok_some (lp_inr (⟨trivial, hs_158⟩))
              · have hc_164 := r_nlt (r_sub (rfl : (a2).toInt = _) (by decide : (c8 10).toInt = 10) (by omega) (by omega)) (rfl : (x_156).toInt = _) h_162
                refine ok_nn (ix_ok (r_add (r_mul (by decide : (ci 2).toInt = 2) (rfl : (x_156).toInt = _) (by omega) (by omega)) (rfl : (x_155).toInt = _) (by omega) (by omega)) (by omega) (by omega)) ?_
                extract_lets +onlyGivenNames v_165
                clear_value v_165
                refine ok_nn (ix_ok (r_sub (r_add (r_mul (by decide : (ci 2).toInt = 2) (rfl : (x_156).toInt = _) (by omega) (by omega)) (by decide : (ci 1).toInt = 1) (by omega) (by omega)) (rfl : (x_155).toInt = _) (by omega) (by omega)) (by omega) (by omega)) ?_
                extract_lets +onlyGivenNames v_166
                clear_value v_166
                refine ok_ite (fun h_167 => ?_) (fun h_168 => ?_)
                · have hc_169 := r_lt (rfl : (v_165).toInt = _) (rfl : (v_166).toInt = _) h_167
                  unfold F_X12_stands_219
                  unfold F_X12_stands_223
                  exact ok_some (lp_inl ⟨rfl, rfl, hs_158, (up_0 (x := x_156) (by omega) (by omega)), (show 0 ≤ ((ci 1) - x_155).toInt ∧ ((ci 1) - x_155).toInt ≤ 1 by rw [((r_sub (by decide : (ci 1).toInt = 1) (rfl : (x_155).toInt = _) (by omega) (by omega)) : ((ci 1) - x_155).toInt = (1 - (x_155).toInt))]; exact ⟨by omega, by omega⟩)⟩ (up_t (x := x_156) (by omega)))
                · have hc_170 := r_nlt (rfl : (v_165).toInt = _) (rfl : (v_166).toInt = _) h_168
                  refine ok_ite (fun h_171 => ?_) (fun h_172 => ?_)
                  · have hc_173 := r_eq (rfl : (v_166).toInt = _) (rfl : (v_165).toInt = _) h_171
                    refine ok_ite (fun h_174 => ?_) (fun h_175 => ?_)
                    · have hc_176 := r_eq (rfl : (x_155).toInt = _) (by decide : (ci 1).toInt = 1) h_174
                      unfold F_X12_stands_219
                      unfold F_X12_stands_223
                      exact ok_some (lp_inl ⟨rfl, rfl, hs_158, (up_0 (x := x_156) (by omega) (by omega)), (show 0 ≤ ((ci 1) - x_155).toInt ∧ ((ci 1) - x_155).toInt ≤ 1 by rw [((r_sub (by decide : (ci 1).toInt = 1) (rfl : (x_155).toInt = _) (by omega) (by omega)) : ((ci 1) - x_155).toInt = (1 - (x_155).toInt))]; exact ⟨by omega, by omega⟩)⟩ (up_t (x := x_156) (by omega)))
                    · have hc_177 := r_ne (rfl : (x_155).toInt = _) (by decide : (ci 1).toInt = 1) h_175
                      unfold F_X12_stands_223
                      exact ok_some (lp_inl ⟨rfl, rfl, hs_158, (up_0 (x := x_156) (by omega) (by omega)), (show 0 ≤ (x_155).toInt ∧ (x_155).toInt ≤ 1 from ⟨by omega, by omega⟩)⟩ (up_t (x := x_156) (by omega)))
                  · have hc_178 := r_ne (rfl : (v_166).toInt = _) (rfl : (v_165).toInt = _) h_172
                    unfold F_X12_stands_223
                    exact ok_some (lp_inl ⟨rfl, rfl, hs_158, (up_0 (x := x_156) (by omega) (by omega)), (show 0 ≤ (x_155).toInt ∧ (x_155).toInt ≤ 1 from ⟨by omega, by omega⟩)⟩ (up_t (x := x_156) (by omega)))
            · have hc_179 := r_nlt (rfl : (s_138.1 104 0).toInt = _) (rfl : (s_138.1 104 1).toInt = _) h_151
              refine ok_b1r ?_
              unfold F_X12_stands_157
              unfold F_X12_stands_L161
              refine ok_whl (fun v => a1 = v.1 ∧ a2 = v.2.1 ∧ RM s v.2.2.2.2 ∧ 0 ≤ (v.2.2.2.1).toInt ∧ (0 ≤ (v.2.2.1).toInt ∧ (v.2.2.1).toInt ≤ 1)) (fun v => mUp v.2.2.2.1) ⟨rfl, rfl, hs_139, (show 0 ≤ (ci 1).toInt by rw [((by decide : (ci 1).toInt = 1) : (ci 1).toInt = 1)]; omega), (show 0 ≤ (ci 0).toInt ∧ (ci 0).toInt ≤ 1 by rw [((by decide : (ci 0).toInt = 0) : (ci 0).toInt = 0)]; exact ⟨by omega, by omega⟩)⟩ (fun v hv => ?_)
              obtain ⟨x_180, x_181, x_182, x_183, s_184⟩ := v
              obtain ⟨rfl, rfl, rhs_185, rhn_186, rhn_187⟩ := hv
              have hs_185 : RM s s_184 := rhs_185
              have hn_186 : 0 ≤ x_183.toInt := rhn_186
              have hn_187 : 0 ≤ (x_182).toInt ∧ (x_182).toInt ≤ 1 := rhn_187
              clear rhs_185 rhn_186 rhn_187
              show ok (F_X12_stands_B161 a1 a2 x_182 x_183 s_184) _
              unfold F_X12_stands_B161
              refine ok_ite (fun h_188 => ?_) (fun h_189 => ?_)
              · have hc_190 := r_lt (r_sub (rfl : (a2).toInt = _) (by decide : (c8 10).toInt = 10) (by omega) (by omega)) (rfl : (x_183).toInt = _) h_188
                exact ok_some (lp_inr (⟨trivial, hs_185⟩))
              · have hc_191 := r_nlt (r_sub (rfl : (a2).toInt = _) (by decide : (c8 10).toInt = 10) (by omega) (by omega)) (rfl : (x_183).toInt = _) h_189
                refine ok_nn (ix_ok (r_add (r_mul (by decide : (ci 2).toInt = 2) (rfl : (x_183).toInt = _) (by omega) (by omega)) (rfl : (x_182).toInt = _) (by omega) (by omega)) (by omega) (by omega)) ?_
                extract_lets +onlyGivenNames v_192
                clear_value v_192
                refine ok_nn (ix_ok (r_sub (r_add (r_mul (by decide : (ci 2).toInt = 2) (rfl : (x_183).toInt = _) (by omega) (by omega)) (by decide : (ci 1).toInt = 1) (by omega) (by omega)) (rfl : (x_182).toInt = _) (by omega) (by omega)) (by omega) (by omega)) ?_
                extract_lets +onlyGivenNames v_193
                clear_value v_193
                refine ok_ite (fun h_194 => ?_) (fun h_195 => ?_)
                · have hc_196 := r_lt (rfl : (v_192).toInt = _) (rfl : (v_193).toInt = _) h_194
                  unfold F_X12_stands_219
                  unfold F_X12_stands_223
                  exact ok_some (lp_inl ⟨rfl, rfl, hs_185, (up_0 (x := x_183) (by omega) (by omega)), (show 0 ≤ ((ci 1) - x_182).toInt ∧ ((ci 1) - x_182).toInt ≤ 1 by rw [((r_sub (by decide : (ci 1).toInt = 1) (rfl : (x_182).toInt = _) (by omega) (by omega)) : ((ci 1) - x_182).toInt = (1 - (x_182).toInt))]; exact ⟨by omega, by omega⟩)⟩ (up_t (x := x_183) (by omega)))
                · have hc_197 := r_nlt (rfl : (v_192).toInt = _) (rfl : (v_193).toInt = _) h_195
                  refine ok_ite (fun h_198 => ?_) (fun h_199 => ?_)
                  · have hc_200 := r_eq (rfl : (v_193).toInt = _) (rfl : (v_192).toInt = _) h_198
                    refine ok_ite (fun h_201 => ?_) (fun h_202 => ?_)
                    · have hc_203 := r_eq (rfl : (x_182).toInt = _) (by decide : (ci 1).toInt = 1) h_201
                      unfold F_X12_stands_219
                      unfold F_X12_stands_223
                      exact ok_some (lp_inl ⟨rfl, rfl, hs_185, (up_0 (x := x_183) (by omega) (by omega)), (show 0 ≤ ((ci 1) - x_182).toInt ∧ ((ci 1) - x_182).toInt ≤ 1 by rw [((r_sub (by decide : (ci 1).toInt = 1) (rfl : (x_182).toInt = _) (by omega) (by omega)) : ((ci 1) - x_182).toInt = (1 - (x_182).toInt))]; exact ⟨by omega, by omega⟩)⟩ (up_t (x := x_183) (by omega)))
                    · have hc_204 := r_ne (rfl : (x_182).toInt = _) (by decide : (ci 1).toInt = 1) h_202
                      unfold F_X12_stands_223
                      exact ok_some (lp_inl ⟨rfl, rfl, hs_185, (up_0 (x := x_183) (by omega) (by omega)), (show 0 ≤ (x_182).toInt ∧ (x_182).toInt ≤ 1 from ⟨by omega, by omega⟩)⟩ (up_t (x := x_183) (by omega)))
                  · have hc_205 := r_ne (rfl : (v_193).toInt = _) (rfl : (v_192).toInt = _) h_199
                    unfold F_X12_stands_223
                    exact ok_some (lp_inl ⟨rfl, rfl, hs_185, (up_0 (x := x_183) (by omega) (by omega)), (show 0 ≤ (x_182).toInt ∧ (x_182).toInt ≤ 1 from ⟨by omega, by omega⟩)⟩ (up_t (x := x_183) (by omega)))
        · have hc_206 := r_nlt (rfl : (x_137).toInt = _) (by decide : (0 : Int32).toInt = 0) h_142
          unfold F_X12_stands_L58
          refine ok_whl (fun v => a1 = v.1 ∧ a2 = v.2.1 ∧ x_137 = v.2.2.1 ∧ RM s v.2.2.2.2 ∧ 0 ≤ (v.2.2.2.1).toInt) (fun v => mUp v.2.2.2.1) ⟨rfl, rfl, rfl, hs_139, (show 0 ≤ (ci 0).toInt by rw [((by decide : (ci 0).toInt = 0) : (ci 0).toInt = 0)]; omega)⟩ (fun v hv => ?_)
          obtain ⟨x_207, x_208, x_209, x_210, s_211⟩ := v
          obtain ⟨rfl, rfl, rfl, rhs_212, rhn_213⟩ := hv
          have hs_212 : RM s s_211 := rhs_212
          have hn_213 : 0 ≤ x_210.toInt := rhn_213
          clear rhs_212 rhn_213
          show ok (F_X12_stands_B58 a1 a2 x_137 x_210 s_211) _
          unfold F_X12_stands_B58
          refine ok_ite (fun h_214 => ?_) (fun h_215 => ?_)
          · have hc_216 := r_le (by decide : (ci 2).toInt = 2) (rfl : (x_210).toInt = _) h_214
            exact ok_some (lp_inr (lp_inl ⟨rfl, rfl, hs_212, (dn_le (x := x_137) (by omega) (by omega))⟩ (dn_i (x := x_137) (by omega))))
          · have hc_217 := r_nle (by decide : (ci 2).toInt = 2) (rfl : (x_210).toInt = _) h_215
            refine ok_nn (ix_ok (r_add (r_mul (by decide : (ci 2).toInt = 2) (rfl : (x_137).toInt = _) (by omega) (by omega)) (rfl : (x_210).toInt = _) (by omega) (by omega)) (by omega) (by omega)) ?_
            refine ok_ite (fun h_218 => ?_) (fun h_219 => ?_)
            · have hc_220 := r_eq (rfl : (x_137).toInt = _) (by decide : (c8 23).toInt = 23) h_218
              unfold F_X12_stands_103
              refine ok_nn (ix_ok (r_add (r_mul (by decide : (ci 2).toInt = 2) (rfl : (x_137).toInt = _) (by omega) (by omega)) (rfl : (x_210).toInt = _) (by omega) (by omega)) (by omega) (by omega)) ?_
              extract_lets +onlyGivenNames s_221
              have hs_222 : RM s s_221 := (RM_mw hs_212 (by decide))
              clear_value s_221
              exact ok_some (lp_inl ⟨rfl, rfl, rfl, hs_222, (up_0 (x := x_210) (by omega) (by omega))⟩ (up_t (x := x_210) (by omega)))
            · have hc_223 := r_ne (rfl : (x_137).toInt = _) (by decide : (c8 23).toInt = 23) h_219
              refine ok_b1 (T_X12_mostBy ⟨by omega, by omega⟩ ⟨by omega, by omega⟩ hs_212.1) (fun v_224 _ => ?_)
              unfold F_X12_stands_103
              refine ok_nn (ix_ok (r_add (r_mul (by decide : (ci 2).toInt = 2) (rfl : (x_137).toInt = _) (by omega) (by omega)) (rfl : (x_210).toInt = _) (by omega) (by omega)) (by omega) (by omega)) ?_
              extract_lets +onlyGivenNames s_226
              have hs_227 : RM s s_226 := (RM_mw hs_212 (by decide))
              clear_value s_226
              exact ok_some (lp_inl ⟨rfl, rfl, rfl, hs_227, (up_0 (x := x_210) (by omega) (by omega))⟩ (up_t (x := x_210) (by omega)))
end
