noncomputable section
theorem T_X12_ringMany {s : mG} (hI : IM s) : ok (F_X12_ringMany s) (fun (v : Int32) => True) := by
  have hR : RM s s := RM_refl hI
  unfold F_X12_ringMany
  unfold F_X12_ringMany_L4
  refine ok_whl (fun v => 0 ≤ (v.2).toInt) (fun v => mUp v.2) (show 0 ≤ (ci 0).toInt by rw [((by decide : (ci 0).toInt = 0) : (ci 0).toInt = 0)]; omega) (fun v hv => ?_)
  obtain ⟨x_2, x_3⟩ := v
  have hn_4 : 0 ≤ x_3.toInt := hv
  show ok (F_X12_ringMany_B4 s x_2 x_3) _
  unfold F_X12_ringMany_B4
  refine ok_ite (fun h_5 => ?_) (fun h_6 => ?_)
  · have hk_7 := im_112 hR.1
    have hc_8 := r_le (rfl : (s.1 89 112).toInt = _) (rfl : (x_3).toInt = _) h_5
    exact ok_some (lp_inr (trivial))
  · have hk_9 := im_112 hR.1
    have hc_10 := r_nle (rfl : (s.1 89 112).toInt = _) (rfl : (x_3).toInt = _) h_6
    refine ok_nn (ix_ok (r_add (by decide : (c8 15).toInt = 15) (rfl : (x_3).toInt = _) (by omega) (by omega)) (by omega) (by omega)) ?_
    refine ok_ite (fun h_11 => ?_) (fun h_12 => ?_)
    · unfold F_X12_ringMany_54
      unfold F_X12_ringMany_55
      exact ok_some (lp_inl (up_0 (x := x_3) (by omega) (by omega)) (up_t (x := x_3) (by omega)))
    · refine ok_nn (ix_ok (r_add (by decide : (c8 15).toInt = 15) (rfl : (x_3).toInt = _) (by omega) (by omega)) (by omega) (by omega)) ?_
      refine ok_ite (fun h_13 => ?_) (fun h_14 => ?_)
      · unfold F_X12_ringMany_54
        unfold F_X12_ringMany_55
        exact ok_some (lp_inl (up_0 (x := x_3) (by omega) (by omega)) (up_t (x := x_3) (by omega)))
      · refine ok_b1 (T_X12_leadsRing ⟨by omega, by omega⟩ hR.1) (fun v_15 (hv_16 : PB v_15) => ?_)
        refine ok_ite (fun h_17 => ?_) (fun h_18 => ?_)
        · have hc_19 := r_eq (rfl : (v_15).toInt = _) (by decide : (0 : Int32).toInt = 0) h_17
          unfold F_X12_ringMany_54
          unfold F_X12_ringMany_55
          exact ok_some (lp_inl (up_0 (x := x_3) (by omega) (by omega)) (up_t (x := x_3) (by omega)))
        · have hc_20 := r_ne (rfl : (v_15).toInt = _) (by decide : (0 : Int32).toInt = 0) h_18
          unfold F_X12_ringMany_55
          exact ok_some (lp_inl (up_0 (x := x_3) (by omega) (by omega)) (up_t (x := x_3) (by omega)))
theorem T_X12_swapped {s : mG} {a1 : Int32} (hI : IM s) : ok (F_X12_swapped s a1) (fun (v : Int32) => True) := by
  have hR : RM s s := RM_refl hI
  unfold F_X12_swapped
  refine ok_ite (fun h_1 => ?_) (fun h_2 => ?_)
  · have hc_3 := r_eq (rfl : (a1).toInt = _) (by decide : (ci 0).toInt = 0) h_1
    refine ok_b1 (T_X12_swappedSet hR.1) (fun v_4 _ => ?_)
    exact ok_some trivial
  · have hc_6 := r_ne (rfl : (a1).toInt = _) (by decide : (ci 0).toInt = 0) h_2
    refine ok_ite (fun h_7 => ?_) (fun h_8 => ?_)
    · have hc_9 := r_eq (rfl : (a1).toInt = _) (by decide : (ci 1).toInt = 1) h_7
      refine ok_b1 (T_X12_swappedSet hR.1) (fun v_10 _ => ?_)
      refine ok_b1 (T_X12_count hR.1) (fun v_12 _ => ?_)
      refine ok_b1 (T_X12_ringMany hR.1) (fun v_14 _ => ?_)
      exact ok_some trivial
    · have hc_16 := r_ne (rfl : (a1).toInt = _) (by decide : (ci 1).toInt = 1) h_8
      refine ok_ite (fun h_17 => ?_) (fun h_18 => ?_)
      · have hc_19 := r_eq (rfl : (a1).toInt = _) (by decide : (ci 2).toInt = 2) h_17
        refine ok_b1 (T_X12_ringMany hR.1) (fun v_20 _ => ?_)
        exact ok_some trivial
      · have hc_22 := r_ne (rfl : (a1).toInt = _) (by decide : (ci 2).toInt = 2) h_18
        exact ok_some trivial
theorem T_X12_laysFloors {s : mG} (hI : IM s) : ok (F_X12_laysFloors s) (RM s) := by
  have hR : RM s s := RM_refl hI
  unfold F_X12_laysFloors
  unfold F_X12_laysFloors_L2
  refine ok_whl (fun v => RM s v.2 ∧ 0 ≤ (v.1).toInt) (fun v => mUp v.1) ⟨hR, (show 0 ≤ (ci 0).toInt by rw [((by decide : (ci 0).toInt = 0) : (ci 0).toInt = 0)]; omega)⟩ (fun v hv => ?_)
  obtain ⟨x_2, s_3⟩ := v
  obtain ⟨rhs_4, rhn_5⟩ := hv
  have hs_4 : RM s s_3 := rhs_4
  have hn_5 : 0 ≤ x_2.toInt := rhn_5
  clear rhs_4 rhn_5
  show ok (F_X12_laysFloors_B2 x_2 s_3) _
  unfold F_X12_laysFloors_B2
  refine ok_ite (fun h_6 => ?_) (fun h_7 => ?_)
  · have hc_8 := r_le (by decide : (ci 4).toInt = 4) (rfl : (x_2).toInt = _) h_6
    refine ok_b1r ?_
    unfold F_X12_laysFloors_L22
    refine ok_whl (fun v => RM s v.2 ∧ 0 ≤ (v.1).toInt) (fun v => mUp v.1) ⟨hs_4, (show 0 ≤ (ci 0).toInt by rw [((by decide : (ci 0).toInt = 0) : (ci 0).toInt = 0)]; omega)⟩ (fun v hv => ?_)
    obtain ⟨x_13, s_14⟩ := v
    obtain ⟨rhs_15, rhn_16⟩ := hv
    have hs_15 : RM s s_14 := rhs_15
    have hn_16 : 0 ≤ x_13.toInt := rhn_16
    clear rhs_15 rhn_16
    show ok (F_X12_laysFloors_B22 x_13 s_14) _
    unfold F_X12_laysFloors_B22
    refine ok_ite (fun h_17 => ?_) (fun h_18 => ?_)
    · have hk_19 := im_112 hs_15.1
      have hk_20 := rm_k 89 112 hs_15 (by decide)
      have hc_21 := r_le (rfl : (s_14.1 89 112).toInt = _) (rfl : (x_13).toInt = _) h_17
      exact ok_some (lp_inr (hs_15))
    · have hk_22 := im_112 hs_15.1
      have hk_23 := rm_k 89 112 hs_15 (by decide)
      have hc_24 := r_nle (rfl : (s_14.1 89 112).toInt = _) (rfl : (x_13).toInt = _) h_18
      refine ok_nn (ix_ok (r_add (by decide : (c8 119).toInt = 119) (rfl : (x_13).toInt = _) (by omega) (by omega)) (by omega) (by omega)) ?_
      extract_lets +onlyGivenNames v_25
      have he_26 : v_25.toInt = (s_14.1 89 ((c8 119) + x_13).toNatClampNeg).toInt := (rfl : (s_14.1 89 ((c8 119) + x_13).toNatClampNeg).toInt = _)
      have hw_27 : 0 ≤ v_25.toInt ∧ v_25.toInt ≤ 3 := im_floor hs_15.1 (by omega) (by omega)
      clear_value v_25
      refine ok_nn (ix_ok he_26 (by omega) (by omega)) ?_
      have hk_28 := im_112 hR.1
      have hk_29 := im_1049 hs_15.1
      have hk_30 := rm_k 89 1049 hs_15 (by decide)
      have hk_31 := im_1049 hR.1
      have hk_32 := im_118 hs_15.1
      have hk_33 := rm_k 89 118 hs_15 (by decide)
      have hk_34 := im_118 hR.1
      refine ok_b2 (ok_rm2 (C := fun (v : Int64) => 0 ≤ v.toInt ∧ v.toInt ≤ 1000000) hs_15 (T_X12_sureOf ⟨by omega, by omega⟩ hs_15.1)) (fun v_35 s_36 (hq : (0 ≤ v_35.toInt ∧ v_35.toInt ≤ 1000000) ∧ RM s s_36) => ?_)
      obtain ⟨hv_38, hs_37⟩ := hq
      refine ok_nn (ix_ok he_26 (by omega) (by omega)) ?_
      extract_lets +onlyGivenNames s_39
      have hs_40 : RM s s_39 := (RM_muL hs_37)
      clear_value s_39
      exact ok_some (lp_inl ⟨hs_40, (up_0 (x := x_13) (by omega) (by omega))⟩ (up_t (x := x_13) (by omega)))
  · have hc_41 := r_nle (by decide : (ci 4).toInt = 4) (rfl : (x_2).toInt = _) h_7
    refine ok_nn (ix_ok (rfl : (x_2).toInt = _) (by omega) (by omega)) ?_
    extract_lets +onlyGivenNames s_42
    have hs_43 : RM s s_42 := (RM_muL hs_4)
    clear_value s_42
    exact ok_some (lp_inl ⟨hs_43, (up_0 (x := x_2) (by omega) (by omega))⟩ (up_t (x := x_2) (by omega)))
theorem T_X12_searches {rec : Int32 → Int32 → Int32 → Int64 → mG → Option (mG)} {a1 : Int32} {a2 : Int32} {a3 : Int32} {a4 : Int64} {s : mG} (hI : IM s) : ok (F_X12_searches rec a1 a2 a3 a4 s) (RM s) := by
  have hR : RM s s := RM_refl hI
  unfold F_X12_searches
  refine ok_ite (fun h_1 => ?_) (fun h_2 => ?_)
  · unfold F_X12_searches_50
    unfold F_X12_searches_L53
    refine ok_whl (fun v => a1 = v.1 ∧ a2 = v.2.1 ∧ a3 = v.2.2.1 ∧ a4 = v.2.2.2.1 ∧ RM s v.2.2.2.2.2 ∧ 0 ≤ (v.2.2.2.2.1).toInt) (fun v => mUp v.2.2.2.2.1) ⟨rfl, rfl, rfl, rfl, hR, (show 0 ≤ (ci 0).toInt by rw [((by decide : (ci 0).toInt = 0) : (ci 0).toInt = 0)]; omega)⟩ (fun v hv => ?_)
    obtain ⟨x_10, x_11, x_12, x_13, x_14, s_15⟩ := v
    obtain ⟨rfl, rfl, rfl, rfl, rhs_16, rhn_17⟩ := hv
    have hs_16 : RM s s_15 := rhs_16
    have hn_17 : 0 ≤ x_14.toInt := rhn_17
    clear rhs_16 rhn_17
    show ok (F_X12_searches_B53 rec a1 a2 a3 a4 x_14 s_15) _
    unfold F_X12_searches_B53
    refine ok_ite (fun h_18 => ?_) (fun h_19 => ?_)
    · have hc_20 := r_le (by decide : (ci 4).toInt = 4) (rfl : (x_14).toInt = _) h_18
      exact ok_some (lp_inr (hs_16))
    · have hc_21 := r_nle (by decide : (ci 4).toInt = 4) (rfl : (x_14).toInt = _) h_19
      unfold F_X12_searches_L65
      refine ok_whl (fun v => a1 = v.1 ∧ a2 = v.2.1 ∧ a3 = v.2.2.1 ∧ a4 = v.2.2.2.1 ∧ x_14 = v.2.2.2.2.1 ∧ RM s v.2.2.2.2.2.2.2 ∧ 0 ≤ (v.2.2.2.2.2.2.1).toInt) (fun v => mUp v.2.2.2.2.2.2.1) ⟨rfl, rfl, rfl, rfl, rfl, hs_16, (show 0 ≤ (ci 0).toInt by rw [((by decide : (ci 0).toInt = 0) : (ci 0).toInt = 0)]; omega)⟩ (fun v hv => ?_)
      obtain ⟨x_22, x_23, x_24, x_25, x_26, x_27, x_28, s_29⟩ := v
      obtain ⟨rfl, rfl, rfl, rfl, rfl, rhs_30, rhn_31⟩ := hv
      have hs_30 : RM s s_29 := rhs_30
      have hn_31 : 0 ≤ x_28.toInt := rhn_31
      clear rhs_30 rhn_31
      show ok (F_X12_searches_B65 rec a1 a2 a3 a4 x_14 x_27 x_28 s_29) _
      unfold F_X12_searches_B65
      refine ok_ite (fun h_32 => ?_) (fun h_33 => ?_)
      · have hc_34 := r_le (rfl : (a1).toInt = _) (rfl : (x_28).toInt = _) h_32
        refine ok_ite (fun h_35 => ?_) (fun h_36 => ?_)
        · have hc_37 := r_le (rfl : (a2).toInt = _) (rfl : (x_14).toInt = _) h_35
          refine ok_b1r ?_
          unfold F_X12_searches_120
          refine ok_ite (fun h_38 => ?_) (fun h_39 => ?_)
          · have hc_40 := r_eq (rfl : (x_27).toInt = _) (by decide : (0 : Int32).toInt = 0) h_38
            refine ok_ite (fun h_41 => ?_) (fun h_42 => ?_)
            · refine ok_nn (ix_ok (rfl : (a1).toInt = _) (by omega) (by omega)) ?_
              extract_lets +onlyGivenNames s_43
              have hs_44 : RM s s_43 := (RM_mw hs_30 (by decide))
              clear_value s_43
              refine ok_nn (ix_ok (rfl : (x_14).toInt = _) (by omega) (by omega)) ?_
              refine ok_b1 (ok_rm hs_44 (by sorry)) (fun s_45 (hs_46 : RM s s_45) => ?_)
              unfold F_X12_searches_169
              exact ok_some (lp_inl ⟨rfl, rfl, rfl, rfl, hs_46, (up_0 (x := x_14) (by omega) (by omega))⟩ (up_t (x := x_14) (by omega)))
            · unfold F_X12_searches_169
              exact ok_some (lp_inl ⟨rfl, rfl, rfl, rfl, hs_30, (up_0 (x := x_14) (by omega) (by omega))⟩ (up_t (x := x_14) (by omega)))
          · have hc_47 := r_ne (rfl : (x_27).toInt = _) (by decide : (0 : Int32).toInt = 0) h_39
            unfold F_X12_searches_169
            exact ok_some (lp_inl ⟨rfl, rfl, rfl, rfl, hs_30, (up_0 (x := x_14) (by omega) (by omega))⟩ (up_t (x := x_14) (by omega)))
        · have hc_48 := ge_t h_36
          have hc_49 := r_nle (rfl : (a2).toInt = _) (rfl : (x_14).toInt = _) h_36
          refine ok_b1r ?_
          unfold F_X12_searches_120
          refine ok_ite (fun h_50 => ?_) (fun h_51 => ?_)
          · have hc_52 := r_eq (rfl : (x_27).toInt = _) (by decide : (0 : Int32).toInt = 0) h_50
            refine ok_ite (fun h_53 => ?_) (fun h_54 => ?_)
            · refine ok_nn (ix_ok (rfl : (a1).toInt = _) (by omega) (by omega)) ?_
              extract_lets +onlyGivenNames s_55
              have hs_56 : RM s s_55 := (RM_mw hs_30 (by decide))
              clear_value s_55
              refine ok_nn (ix_ok (rfl : (x_14).toInt = _) (by omega) (by omega)) ?_
              refine ok_b1 (ok_rm hs_56 (by sorry)) (fun s_57 (hs_58 : RM s s_57) => ?_)
              unfold F_X12_searches_169
              exact ok_some (lp_inl ⟨rfl, rfl, rfl, rfl, hs_58, (up_0 (x := x_14) (by omega) (by omega))⟩ (up_t (x := x_14) (by omega)))
            · unfold F_X12_searches_169
              exact ok_some (lp_inl ⟨rfl, rfl, rfl, rfl, hs_30, (up_0 (x := x_14) (by omega) (by omega))⟩ (up_t (x := x_14) (by omega)))
          · have hc_59 := r_ne (rfl : (x_27).toInt = _) (by decide : (0 : Int32).toInt = 0) h_51
            unfold F_X12_searches_169
            exact ok_some (lp_inl ⟨rfl, rfl, rfl, rfl, hs_30, (up_0 (x := x_14) (by omega) (by omega))⟩ (up_t (x := x_14) (by omega)))
      · have hc_60 := ge_t h_33
        have hc_61 := r_nle (rfl : (a1).toInt = _) (rfl : (x_28).toInt = _) h_33
        refine ok_ite (fun h_62 => ?_) (fun h_63 => ?_)
        · have hc_64 := r_eq (rfl : (x_27).toInt = _) (by decide : (0 : Int32).toInt = 0) h_62
          refine ok_nn (ix_ok (rfl : (x_28).toInt = _) (by omega) (by omega)) ?_
          refine ok_ite (fun h_65 => ?_) (fun h_66 => ?_)
          · unfold F_X12_searches_88
            unfold F_X12_searches_93
            exact ok_some (lp_inl ⟨rfl, rfl, rfl, rfl, rfl, hs_30, (up_0 (x := x_28) (by omega) (by omega))⟩ (up_t (x := x_28) (by omega)))
          · unfold F_X12_searches_93
            exact ok_some (lp_inl ⟨rfl, rfl, rfl, rfl, rfl, hs_30, (up_0 (x := x_28) (by omega) (by omega))⟩ (up_t (x := x_28) (by omega)))
        · have hc_67 := r_ne (rfl : (x_27).toInt = _) (by decide : (0 : Int32).toInt = 0) h_63
          unfold F_X12_searches_88
          unfold F_X12_searches_93
          exact ok_some (lp_inl ⟨rfl, rfl, rfl, rfl, rfl, hs_30, (up_0 (x := x_28) (by omega) (by omega))⟩ (up_t (x := x_28) (by omega)))
  · extract_lets +onlyGivenNames s_68
    have hs_69 : RM s s_68 := (RM_muL hR)
    clear_value s_68
    extract_lets +onlyGivenNames s_70
    have hs_71 : RM s s_70 := (RM_mu hs_69 (by decide))
    clear_value s_70
    unfold F_X12_searches_L24
    refine ok_whl (fun v => a1 = v.1 ∧ a2 = v.2.1 ∧ a3 = v.2.2.1 ∧ a4 = v.2.2.2.1 ∧ RM s v.2.2.2.2.2 ∧ 0 ≤ (v.2.2.2.2.1).toInt) (fun v => mUp v.2.2.2.2.1) ⟨rfl, rfl, rfl, rfl, hs_71, (show 0 ≤ (ci 0).toInt by rw [((by decide : (ci 0).toInt = 0) : (ci 0).toInt = 0)]; omega)⟩ (fun v hv => ?_)
    obtain ⟨x_73, x_74, x_75, x_76, x_77, s_78⟩ := v
    obtain ⟨rfl, rfl, rfl, rfl, rhs_79, rhn_80⟩ := hv
    have hs_79 : RM s s_78 := rhs_79
    have hn_80 : 0 ≤ x_77.toInt := rhn_80
    clear rhs_79 rhn_80
    show ok (F_X12_searches_B24 rec a1 a2 a3 a4 x_77 s_78) _
    unfold F_X12_searches_B24
    refine ok_ite (fun h_81 => ?_) (fun h_82 => ?_)
    · have hc_83 := r_le (rfl : (a1).toInt = _) (rfl : (x_77).toInt = _) h_81
      refine ok_b1r ?_
      unfold F_X12_searches_50
      unfold F_X12_searches_L53
      refine ok_whl (fun v => a1 = v.1 ∧ a2 = v.2.1 ∧ a3 = v.2.2.1 ∧ a4 = v.2.2.2.1 ∧ RM s v.2.2.2.2.2 ∧ 0 ≤ (v.2.2.2.2.1).toInt) (fun v => mUp v.2.2.2.2.1) ⟨rfl, rfl, rfl, rfl, hs_79, (show 0 ≤ (ci 0).toInt by rw [((by decide : (ci 0).toInt = 0) : (ci 0).toInt = 0)]; omega)⟩ (fun v hv => ?_)
      obtain ⟨x_84, x_85, x_86, x_87, x_88, s_89⟩ := v
      obtain ⟨rfl, rfl, rfl, rfl, rhs_90, rhn_91⟩ := hv
      have hs_90 : RM s s_89 := rhs_90
      have hn_91 : 0 ≤ x_88.toInt := rhn_91
      clear rhs_90 rhn_91
      show ok (F_X12_searches_B53 rec a1 a2 a3 a4 x_88 s_89) _
      unfold F_X12_searches_B53
      refine ok_ite (fun h_92 => ?_) (fun h_93 => ?_)
      · have hc_94 := r_le (by decide : (ci 4).toInt = 4) (rfl : (x_88).toInt = _) h_92
        exact ok_some (lp_inr (hs_90))
      · have hc_95 := r_nle (by decide : (ci 4).toInt = 4) (rfl : (x_88).toInt = _) h_93
        unfold F_X12_searches_L65
        refine ok_whl (fun v => a1 = v.1 ∧ a2 = v.2.1 ∧ a3 = v.2.2.1 ∧ a4 = v.2.2.2.1 ∧ x_88 = v.2.2.2.2.1 ∧ RM s v.2.2.2.2.2.2.2 ∧ 0 ≤ (v.2.2.2.2.2.2.1).toInt) (fun v => mUp v.2.2.2.2.2.2.1) ⟨rfl, rfl, rfl, rfl, rfl, hs_90, (show 0 ≤ (ci 0).toInt by rw [((by decide : (ci 0).toInt = 0) : (ci 0).toInt = 0)]; omega)⟩ (fun v hv => ?_)
        obtain ⟨x_96, x_97, x_98, x_99, x_100, x_101, x_102, s_103⟩ := v
        obtain ⟨rfl, rfl, rfl, rfl, rfl, rhs_104, rhn_105⟩ := hv
        have hs_104 : RM s s_103 := rhs_104
        have hn_105 : 0 ≤ x_102.toInt := rhn_105
        clear rhs_104 rhn_105
        show ok (F_X12_searches_B65 rec a1 a2 a3 a4 x_88 x_101 x_102 s_103) _
        unfold F_X12_searches_B65
        refine ok_ite (fun h_106 => ?_) (fun h_107 => ?_)
        · have hc_108 := r_le (rfl : (a1).toInt = _) (rfl : (x_102).toInt = _) h_106
          refine ok_ite (fun h_109 => ?_) (fun h_110 => ?_)
          · have hc_111 := r_le (rfl : (a2).toInt = _) (rfl : (x_88).toInt = _) h_109
            refine ok_b1r ?_
            unfold F_X12_searches_120
            refine ok_ite (fun h_112 => ?_) (fun h_113 => ?_)
            · have hc_114 := r_eq (rfl : (x_101).toInt = _) (by decide : (0 : Int32).toInt = 0) h_112
              refine ok_ite (fun h_115 => ?_) (fun h_116 => ?_)
              · refine ok_nn (ix_ok (rfl : (a1).toInt = _) (by omega) (by omega)) ?_
                extract_lets +onlyGivenNames s_117
                have hs_118 : RM s s_117 := (RM_mw hs_104 (by decide))
                clear_value s_117
                refine ok_nn (ix_ok (rfl : (x_88).toInt = _) (by omega) (by omega)) ?_
                refine ok_b1 (ok_rm hs_118 (by sorry)) (fun s_119 (hs_120 : RM s s_119) => ?_)
                unfold F_X12_searches_169
                exact ok_some (lp_inl ⟨rfl, rfl, rfl, rfl, hs_120, (up_0 (x := x_88) (by omega) (by omega))⟩ (up_t (x := x_88) (by omega)))
              · unfold F_X12_searches_169
                exact ok_some (lp_inl ⟨rfl, rfl, rfl, rfl, hs_104, (up_0 (x := x_88) (by omega) (by omega))⟩ (up_t (x := x_88) (by omega)))
            · have hc_121 := r_ne (rfl : (x_101).toInt = _) (by decide : (0 : Int32).toInt = 0) h_113
              unfold F_X12_searches_169
              exact ok_some (lp_inl ⟨rfl, rfl, rfl, rfl, hs_104, (up_0 (x := x_88) (by omega) (by omega))⟩ (up_t (x := x_88) (by omega)))
          · have hc_122 := ge_t h_110
            have hc_123 := r_nle (rfl : (a2).toInt = _) (rfl : (x_88).toInt = _) h_110
            refine ok_b1r ?_
            unfold F_X12_searches_120
            refine ok_ite (fun h_124 => ?_) (fun h_125 => ?_)
            · have hc_126 := r_eq (rfl : (x_101).toInt = _) (by decide : (0 : Int32).toInt = 0) h_124
              refine ok_ite (fun h_127 => ?_) (fun h_128 => ?_)
              · refine ok_nn (ix_ok (rfl : (a1).toInt = _) (by omega) (by omega)) ?_
                extract_lets +onlyGivenNames s_129
                have hs_130 : RM s s_129 := (RM_mw hs_104 (by decide))
                clear_value s_129
                refine ok_nn (ix_ok (rfl : (x_88).toInt = _) (by omega) (by omega)) ?_
                refine ok_b1 (ok_rm hs_130 (by sorry)) (fun s_131 (hs_132 : RM s s_131) => ?_)
                unfold F_X12_searches_169
                exact ok_some (lp_inl ⟨rfl, rfl, rfl, rfl, hs_132, (up_0 (x := x_88) (by omega) (by omega))⟩ (up_t (x := x_88) (by omega)))
              · unfold F_X12_searches_169
                exact ok_some (lp_inl ⟨rfl, rfl, rfl, rfl, hs_104, (up_0 (x := x_88) (by omega) (by omega))⟩ (up_t (x := x_88) (by omega)))
            · have hc_133 := r_ne (rfl : (x_101).toInt = _) (by decide : (0 : Int32).toInt = 0) h_125
              unfold F_X12_searches_169
              exact ok_some (lp_inl ⟨rfl, rfl, rfl, rfl, hs_104, (up_0 (x := x_88) (by omega) (by omega))⟩ (up_t (x := x_88) (by omega)))
        · have hc_134 := ge_t h_107
          have hc_135 := r_nle (rfl : (a1).toInt = _) (rfl : (x_102).toInt = _) h_107
          refine ok_ite (fun h_136 => ?_) (fun h_137 => ?_)
          · have hc_138 := r_eq (rfl : (x_101).toInt = _) (by decide : (0 : Int32).toInt = 0) h_136
            refine ok_nn (ix_ok (rfl : (x_102).toInt = _) (by omega) (by omega)) ?_
            refine ok_ite (fun h_139 => ?_) (fun h_140 => ?_)
            · unfold F_X12_searches_88
              unfold F_X12_searches_93
              exact ok_some (lp_inl ⟨rfl, rfl, rfl, rfl, rfl, hs_104, (up_0 (x := x_102) (by omega) (by omega))⟩ (up_t (x := x_102) (by omega)))
            · unfold F_X12_searches_93
              exact ok_some (lp_inl ⟨rfl, rfl, rfl, rfl, rfl, hs_104, (up_0 (x := x_102) (by omega) (by omega))⟩ (up_t (x := x_102) (by omega)))
          · have hc_141 := r_ne (rfl : (x_101).toInt = _) (by decide : (0 : Int32).toInt = 0) h_137
            unfold F_X12_searches_88
            unfold F_X12_searches_93
            exact ok_some (lp_inl ⟨rfl, rfl, rfl, rfl, rfl, hs_104, (up_0 (x := x_102) (by omega) (by omega))⟩ (up_t (x := x_102) (by omega)))
    · have hc_142 := ge_t h_82
      have hc_143 := r_nle (rfl : (a1).toInt = _) (rfl : (x_77).toInt = _) h_82
      refine ok_nn (ix_ok (rfl : (x_77).toInt = _) (by omega) (by omega)) ?_
      refine ok_nn (ix_ok (rfl : (x_77).toInt = _) (by omega) (by omega)) ?_
      extract_lets +onlyGivenNames s_144
      have hs_145 : RM s s_144 := (RM_mw hs_79 (by decide))
      clear_value s_144
      exact ok_some (lp_inl ⟨rfl, rfl, rfl, rfl, hs_145, (up_0 (x := x_77) (by omega) (by omega))⟩ (up_t (x := x_77) (by omega)))
end
