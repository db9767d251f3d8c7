noncomputable section
theorem T_X12_thief {s : mG} (hI : IM s) : ok (F_X12_thief s) (fun (v : Int32) => True) := by
  have hR : RM s s := RM_refl hI
  unfold F_X12_thief
  unfold F_X12_thief_L4
  refine ok_whl (fun v => 0 ≤ (v.2).toInt ∧ (-1 ≤ (v.1).toInt ∧ (v.1).toInt < 12)) (fun v => mUp v.2) ⟨(show 0 ≤ (ci 0).toInt by rw [((by decide : (ci 0).toInt = 0) : (ci 0).toInt = 0)]; omega), (show -1 ≤ (ci (-1)).toInt ∧ (ci (-1)).toInt < 12 by rw [((by decide : (ci (-1)).toInt = (-1)) : (ci (-1)).toInt = (-1))]; exact ⟨by omega, by omega⟩)⟩ (fun v hv => ?_)
  obtain ⟨x_1, x_2⟩ := v
  obtain ⟨rhn_3, rhn_4⟩ := hv
  have hn_3 : 0 ≤ x_2.toInt := rhn_3
  have hn_4 : -1 ≤ (x_1).toInt ∧ (x_1).toInt < 12 := rhn_4
  clear rhn_3 rhn_4
  show ok (F_X12_thief_B4 s x_1 x_2) _
  unfold F_X12_thief_B4
  refine ok_ite (fun h_5 => ?_) (fun h_6 => ?_)
  · have hk_7 := im_112 hR.1
    have hc_8 := r_le (rfl : (s.1 89 112).toInt = _) (rfl : (x_2).toInt = _) h_5
    exact ok_some (lp_inr (trivial))
  · have hk_9 := im_112 hR.1
    have hc_10 := r_nle (rfl : (s.1 89 112).toInt = _) (rfl : (x_2).toInt = _) h_6
    refine ok_nn (ix_ok (r_add (by decide : (c8 15).toInt = 15) (rfl : (x_2).toInt = _) (by omega) (by omega)) (by omega) (by omega)) ?_
    refine ok_ite (fun h_11 => ?_) (fun h_12 => ?_)
    · refine ok_nn (ix_ok (r_add (by decide : (ci 3).toInt = 3) (rfl : (x_2).toInt = _) (by omega) (by omega)) (by omega) (by omega)) ?_
      refine ok_ite (fun h_13 => ?_) (fun h_14 => ?_)
      · refine ok_ite (fun h_15 => ?_) (fun h_16 => ?_)
        · have hc_17 := r_eq (rfl : (x_1).toInt = _) (by decide : (ci (-1)).toInt = (-1)) h_15
          unfold F_X12_thief_66
          unfold F_X12_thief_68
          exact ok_some (lp_inl ⟨(up_0 (x := x_2) (by omega) (by omega)), (show -1 ≤ (x_2).toInt ∧ (x_2).toInt < 12 from ⟨by omega, by omega⟩)⟩ (up_t (x := x_2) (by omega)))
        · have hc_18 := r_ne (rfl : (x_1).toInt = _) (by decide : (ci (-1)).toInt = (-1)) h_16
          refine ok_nn (ix_ok (r_add (by decide : (c8 27).toInt = 27) (rfl : (x_2).toInt = _) (by omega) (by omega)) (by omega) (by omega)) ?_
          refine ok_nn (ix_ok (r_add (by decide : (c8 27).toInt = 27) (rfl : (x_1).toInt = _) (by omega) (by omega)) (by omega) (by omega)) ?_
          refine ok_ite (fun h_19 => ?_) (fun h_20 => ?_)
          · unfold F_X12_thief_68
            exact ok_some (lp_inl ⟨(up_0 (x := x_2) (by omega) (by omega)), (show -1 ≤ (x_1).toInt ∧ (x_1).toInt < 12 from ⟨by omega, by omega⟩)⟩ (up_t (x := x_2) (by omega)))
          · unfold F_X12_thief_66
            unfold F_X12_thief_68
            exact ok_some (lp_inl ⟨(up_0 (x := x_2) (by omega) (by omega)), (show -1 ≤ (x_2).toInt ∧ (x_2).toInt < 12 from ⟨by omega, by omega⟩)⟩ (up_t (x := x_2) (by omega)))
      · unfold F_X12_thief_68
        exact ok_some (lp_inl ⟨(up_0 (x := x_2) (by omega) (by omega)), (show -1 ≤ (x_1).toInt ∧ (x_1).toInt < 12 from ⟨by omega, by omega⟩)⟩ (up_t (x := x_2) (by omega)))
    · unfold F_X12_thief_68
      exact ok_some (lp_inl ⟨(up_0 (x := x_2) (by omega) (by omega)), (show -1 ≤ (x_1).toInt ∧ (x_1).toInt < 12 from ⟨by omega, by omega⟩)⟩ (up_t (x := x_2) (by omega)))
theorem T_X12_ofRoom {s : mG} {a1 : Int32} {a2 : Int32} (h_a1 : 0 ≤ a1.toInt ∧ a1.toInt < 8) (h_a2 : 0 ≤ a2.toInt ∧ a2.toInt < 4) (hI : IM s) : ok (F_X12_ofRoom s a1 a2) (fun (v : Int32) => v = s.1 89 (((c16 203) + ((ci 4) * a1)) + a2).toNatClampNeg) := by
  have hR : RM s s := RM_refl hI
  unfold F_X12_ofRoom
  refine ok_nn (ix_ok (r_add (r_add (by decide : (c16 203).toInt = 203) (r_mul (by decide : (ci 4).toInt = 4) (rfl : (a1).toInt = _) (by omega) (by omega)) (by omega) (by omega)) (rfl : (a2).toInt = _) (by omega) (by omega)) (by omega) (by omega)) ?_
  exact ok_some rfl
theorem T_X12_isKnockedAhead {a1 : Int32} {a2 : Int32} {s : mG} (h_a1 : 0 ≤ a1.toInt ∧ a1.toInt < (s.1 89 118).toInt) (h_a2 : 0 ≤ a2.toInt ∧ a2.toInt < (s.1 89 118).toInt) (hI : IM s) : ok (F_X12_isKnockedAhead a1 a2 s) (fun τ => (PB τ.1) ∧ RM s τ.2) := by
  have hR : RM s s := RM_refl hI
  unfold F_X12_isKnockedAhead
  have hk_1 := im_118 hR.1
  refine ok_b1 (T_X12_ofRoom ⟨by omega, by omega⟩ ⟨by decide, by decide⟩ hR.1) (fun v_2 (hv_3 : v_2 = s.1 89 (((c16 203) + ((ci 4) * a1)) + (ci 0)).toNatClampNeg) => ?_)
  have hk_4 := im_112 hR.1
  have hk_5 := im_1049 hR.1
  refine ok_b2 (ok_rm2 (C := fun (v : Int64) => 0 ≤ v.toInt ∧ v.toInt ≤ 1000000) hR (T_X12_sureOf (by rw [hv_3]; exact im_room hR.1 (by omega) (by omega)) hR.1)) (fun v_6 s_7 (hq : (0 ≤ v_6.toInt ∧ v_6.toInt ≤ 1000000) ∧ RM s s_7) => ?_)
  obtain ⟨hv_9, hs_8⟩ := hq
  have hk_10 := im_118 hs_8.1
  have hk_11 := rm_k 89 118 hs_8 (by decide)
  refine ok_b1 (T_X12_ofRoom ⟨by omega, by omega⟩ ⟨by decide, by decide⟩ hs_8.1) (fun v_12 (hv_13 : v_12 = s_7.1 89 (((c16 203) + ((ci 4) * a2)) + (ci 0)).toNatClampNeg) => ?_)
  have hk_14 := im_112 hs_8.1
  have hk_15 := rm_k 89 112 hs_8 (by decide)
  have hk_16 := im_1049 hs_8.1
  have hk_17 := rm_k 89 1049 hs_8 (by decide)
  refine ok_b2 (ok_rm2 (C := fun (v : Int64) => 0 ≤ v.toInt ∧ v.toInt ≤ 1000000) hs_8 (T_X12_sureOf (by rw [hv_13]; exact im_room hs_8.1 (by omega) (by omega)) hs_8.1)) (fun v_18 s_19 (hq : (0 ≤ v_18.toInt ∧ v_18.toInt ≤ 1000000) ∧ RM s s_19) => ?_)
  obtain ⟨hv_21, hs_20⟩ := hq
  refine ok_ite (fun h_22 => ?_) (fun h_23 => ?_)
  · unfold F_X12_isKnockedAhead_42
    exact ok_some ⟨pb1, hs_20⟩
  · refine ok_ite (fun h_24 => ?_) (fun h_25 => ?_)
    · refine ok_ite (fun h_26 => ?_) (fun h_27 => ?_)
      · have hc_28 := r_le (rfl : (a2).toInt = _) (rfl : (a1).toInt = _) h_26
        unfold F_X12_isKnockedAhead_46
        exact ok_some ⟨pb0, hs_20⟩
      · have hc_29 := ge_t h_27
        have hc_30 := r_nle (rfl : (a2).toInt = _) (rfl : (a1).toInt = _) h_27
        unfold F_X12_isKnockedAhead_42
        exact ok_some ⟨pb1, hs_20⟩
    · unfold F_X12_isKnockedAhead_46
      exact ok_some ⟨pb0, hs_20⟩
theorem T_X12_knocks {a1 : Int32} {s : mG} (hI : IM s) : ok (F_X12_knocks a1 s) (fun τ => (True) ∧ RM s τ.2) := by
  have hR : RM s s := RM_refl hI
  unfold F_X12_knocks
  unfold F_X12_knocks_L2
  refine ok_whl (fun v => a1 = v.1 ∧ RM s v.2.2 ∧ 0 ≤ (v.2.1).toInt) (fun v => mUp v.2.1) ⟨rfl, hR, (show 0 ≤ (ci 0).toInt by rw [((by decide : (ci 0).toInt = 0) : (ci 0).toInt = 0)]; omega)⟩ (fun v hv => ?_)
  obtain ⟨x_8, x_9, s_10⟩ := v
  obtain ⟨rfl, rhs_11, rhn_12⟩ := hv
  have hs_11 : RM s s_10 := rhs_11
  have hn_12 : 0 ≤ x_9.toInt := rhn_12
  clear rhs_11 rhn_12
  show ok (F_X12_knocks_B2 a1 x_9 s_10) _
  unfold F_X12_knocks_B2
  refine ok_ite (fun h_13 => ?_) (fun h_14 => ?_)
  · have hk_15 := im_118 hs_11.1
    have hk_16 := rm_k 89 118 hs_11 (by decide)
    have hc_17 := r_le (rfl : (s_10.1 89 118).toInt = _) (rfl : (x_9).toInt = _) h_13
    exact ok_some (lp_inr (⟨trivial, hs_11⟩))
  · have hk_18 := im_118 hs_11.1
    have hk_19 := rm_k 89 118 hs_11 (by decide)
    have hc_20 := r_nle (rfl : (s_10.1 89 118).toInt = _) (rfl : (x_9).toInt = _) h_14
    unfold F_X12_knocks_L18
    refine ok_whl (fun v => a1 = v.1 ∧ x_9 = v.2.1 ∧ RM s v.2.2.2.2 ∧ 0 ≤ (v.2.2.2.1).toInt) (fun v => mUp v.2.2.2.1) ⟨rfl, rfl, hs_11, (show 0 ≤ (ci 0).toInt by rw [((by decide : (ci 0).toInt = 0) : (ci 0).toInt = 0)]; omega)⟩ (fun v hv => ?_)
    obtain ⟨x_21, x_22, x_23, x_24, s_25⟩ := v
    obtain ⟨rfl, rfl, rhs_26, rhn_27⟩ := hv
    have hs_26 : RM s s_25 := rhs_26
    have hn_27 : 0 ≤ x_24.toInt := rhn_27
    clear rhs_26 rhn_27
    show ok (F_X12_knocks_B18 a1 x_9 x_23 x_24 s_25) _
    unfold F_X12_knocks_B18
    refine ok_ite (fun h_28 => ?_) (fun h_29 => ?_)
    · have hk_30 := im_118 hs_26.1
      have hk_31 := rm_k 89 118 hs_26 (by decide)
      have hc_32 := r_le (rfl : (s_25.1 89 118).toInt = _) (rfl : (x_24).toInt = _) h_28
      refine ok_ite (fun h_33 => ?_) (fun h_34 => ?_)
      · have hc_35 := r_eq (rfl : (x_23).toInt = _) (rfl : (a1).toInt = _) h_33
        exact ok_some (lp_inr (lp_inr (⟨trivial, hs_26⟩)))
      · have hc_36 := r_ne (rfl : (x_23).toInt = _) (rfl : (a1).toInt = _) h_34
        exact ok_some (lp_inr (lp_inl ⟨rfl, hs_26, (up_0 (x := x_9) (by omega) (by omega))⟩ (up_t (x := x_9) (by omega))))
    · have hk_37 := im_118 hs_26.1
      have hk_38 := rm_k 89 118 hs_26 (by decide)
      have hc_39 := r_nle (rfl : (s_25.1 89 118).toInt = _) (rfl : (x_24).toInt = _) h_29
      refine ok_ite (fun h_40 => ?_) (fun h_41 => ?_)
      · have hc_42 := r_eq (rfl : (x_24).toInt = _) (rfl : (x_9).toInt = _) h_40
        unfold F_X12_knocks_51
        unfold F_X12_knocks_52
        exact ok_some (lp_inl ⟨rfl, rfl, hs_26, (up_0 (x := x_24) (by omega) (by omega))⟩ (up_t (x := x_24) (by omega)))
      · have hc_43 := r_ne (rfl : (x_24).toInt = _) (rfl : (x_9).toInt = _) h_41
        have hk_44 := im_118 hR.1
        refine ok_b2 (ok_rm2 (C := fun (v : Int32) => PB v) hs_26 (T_X12_isKnockedAhead ⟨by omega, by omega⟩ ⟨by omega, by omega⟩ hs_26.1)) (fun v_45 s_46 (hq : (PB v_45) ∧ RM s s_46) => ?_)
        obtain ⟨hv_48, hs_47⟩ := hq
        refine ok_ite (fun h_49 => ?_) (fun h_50 => ?_)
        · have hc_51 := r_eq (rfl : (v_45).toInt = _) (by decide : (0 : Int32).toInt = 0) h_49
          unfold F_X12_knocks_51
          unfold F_X12_knocks_52
          exact ok_some (lp_inl ⟨rfl, rfl, hs_47, (up_0 (x := x_24) (by omega) (by omega))⟩ (up_t (x := x_24) (by omega)))
        · have hc_52 := r_ne (rfl : (v_45).toInt = _) (by decide : (0 : Int32).toInt = 0) h_50
          unfold F_X12_knocks_52
          exact ok_some (lp_inl ⟨rfl, rfl, hs_47, (up_0 (x := x_24) (by omega) (by omega))⟩ (up_t (x := x_24) (by omega)))
theorem T_X12_canDo {s : mG} {a1 : Int32} (hI : IM s) : ok (F_X12_canDo s a1) (fun (v : Int32) => PB v) := by
  have hR : RM s s := RM_refl hI
  unfold F_X12_canDo
  unfold F_X12_canDo_L2
  refine ok_whl (fun v => a1 = v.1 ∧ 0 ≤ (v.2).toInt) (fun v => mUp v.2) ⟨rfl, (show 0 ≤ (ci 0).toInt by rw [((by decide : (ci 0).toInt = 0) : (ci 0).toInt = 0)]; omega)⟩ (fun v hv => ?_)
  obtain ⟨x_11, x_12⟩ := v
  obtain ⟨rfl, rhn_13⟩ := hv
  have hn_13 : 0 ≤ x_12.toInt := rhn_13
  clear rhn_13
  show ok (F_X12_canDo_B2 s a1 x_12) _
  unfold F_X12_canDo_B2
  refine ok_ite (fun h_14 => ?_) (fun h_15 => ?_)
  · have hk_16 := im_118 hR.1
    have hc_17 := r_le (rfl : (s.1 89 118).toInt = _) (rfl : (x_12).toInt = _) h_14
    exact ok_some (lp_inr (pb1))
  · have hk_18 := im_118 hR.1
    have hc_19 := r_nle (rfl : (s.1 89 118).toInt = _) (rfl : (x_12).toInt = _) h_15
    refine ok_ite (fun h_20 => ?_) (fun h_21 => ?_)
    · unfold F_X12_canDo_99
      exact ok_some (lp_inl ⟨rfl, (up_0 (x := x_12) (by omega) (by omega))⟩ (up_t (x := x_12) (by omega)))
    · unfold F_X12_canDo_L29
      refine ok_whl (fun v => a1 = v.1 ∧ x_12 = v.2.1 ∧ 0 ≤ (v.2.2.2).toInt) (fun v => mUp v.2.2.2) ⟨rfl, rfl, (show 0 ≤ (ci 0).toInt by rw [((by decide : (ci 0).toInt = 0) : (ci 0).toInt = 0)]; omega)⟩ (fun v hv => ?_)
      obtain ⟨x_22, x_23, x_24, x_25⟩ := v
      obtain ⟨rfl, rfl, rhn_26⟩ := hv
      have hn_26 : 0 ≤ x_25.toInt := rhn_26
      clear rhn_26
      show ok (F_X12_canDo_B29 s a1 x_12 x_24 x_25) _
      unfold F_X12_canDo_B29
      refine ok_ite (fun h_27 => ?_) (fun h_28 => ?_)
      · have hc_29 := r_le (rfl : (s.1 89 118).toInt = _) (rfl : (x_25).toInt = _) h_27
        refine ok_b1 (T_X12_ofRoom ⟨by omega, by omega⟩ ⟨by decide, by decide⟩ hR.1) (fun v_30 (hv_31 : v_30 = s.1 89 (((c16 203) + ((ci 4) * x_12)) + (ci 2)).toNatClampNeg) => ?_)
        refine ok_ite (fun h_32 => ?_) (fun h_33 => ?_)
        · have hc_34 := r_le (rfl : (x_24).toInt = _) (rfl : (v_30).toInt = _) h_32
          refine ok_b1r ?_
          unfold F_X12_canDo_99
          exact ok_some (lp_inl ⟨rfl, (up_0 (x := x_12) (by omega) (by omega))⟩ (up_t (x := x_12) (by omega)))
        · have hc_35 := ge_t h_33
          have hc_36 := r_nle (rfl : (x_24).toInt = _) (rfl : (v_30).toInt = _) h_33
          exact ok_some (lp_inr (lp_inr (pb0)))
      · have hc_37 := r_nle (rfl : (s.1 89 118).toInt = _) (rfl : (x_25).toInt = _) h_28
        refine ok_ite (fun h_38 => ?_) (fun h_39 => ?_)
        · refine ok_b1 (T_X12_ofRoom ⟨by omega, by omega⟩ ⟨by decide, by decide⟩ hR.1) (fun v_40 (hv_41 : v_40 = s.1 89 (((c16 203) + ((ci 4) * x_25)) + (ci 2)).toNatClampNeg) => ?_)
          refine ok_b1 (T_X12_ofRoom ⟨by omega, by omega⟩ ⟨by decide, by decide⟩ hR.1) (fun v_42 (hv_43 : v_42 = s.1 89 (((c16 203) + ((ci 4) * x_12)) + (ci 2)).toNatClampNeg) => ?_)
          refine ok_ite (fun h_44 => ?_) (fun h_45 => ?_)
          · have hc_46 := r_lt (rfl : (v_42).toInt = _) (rfl : (v_40).toInt = _) h_44
            unfold F_X12_canDo_78
            unfold F_X12_canDo_79
            exact ok_some (lp_inl ⟨rfl, rfl, (up_0 (x := x_25) (by omega) (by omega))⟩ (up_t (x := x_25) (by omega)))
          · have hc_47 := r_nlt (rfl : (v_42).toInt = _) (rfl : (v_40).toInt = _) h_45
            refine ok_b1 (T_X12_ofRoom ⟨by omega, by omega⟩ ⟨by decide, by decide⟩ hR.1) (fun v_48 (hv_49 : v_48 = s.1 89 (((c16 203) + ((ci 4) * x_25)) + (ci 1)).toNatClampNeg) => ?_)
            unfold F_X12_canDo_79
            exact ok_some (lp_inl ⟨rfl, rfl, (up_0 (x := x_25) (by omega) (by omega))⟩ (up_t (x := x_25) (by omega)))
        · unfold F_X12_canDo_78
          unfold F_X12_canDo_79
          exact ok_some (lp_inl ⟨rfl, rfl, (up_0 (x := x_25) (by omega) (by omega))⟩ (up_t (x := x_25) (by omega)))
theorem T_X12_worthOfSet {s : mG} {a1 : Int32} (hI : IM s) : ok (F_X12_worthOfSet s a1) (fun (v : Int32) => True) := by
  have hR : RM s s := RM_refl hI
  unfold F_X12_worthOfSet
  unfold F_X12_worthOfSet_L4
  refine ok_whl (fun v => a1 = v.1 ∧ 0 ≤ (v.2.2).toInt) (fun v => mUp v.2.2) ⟨rfl, (show 0 ≤ (ci 0).toInt by rw [((by decide : (ci 0).toInt = 0) : (ci 0).toInt = 0)]; omega)⟩ (fun v hv => ?_)
  obtain ⟨x_2, x_3, x_4⟩ := v
  obtain ⟨rfl, rhn_5⟩ := hv
  have hn_5 : 0 ≤ x_4.toInt := rhn_5
  clear rhn_5
  show ok (F_X12_worthOfSet_B4 s a1 x_3 x_4) _
  unfold F_X12_worthOfSet_B4
  refine ok_ite (fun h_6 => ?_) (fun h_7 => ?_)
  · have hk_8 := im_118 hR.1
    have hc_9 := r_le (rfl : (s.1 89 118).toInt = _) (rfl : (x_4).toInt = _) h_6
    exact ok_some (lp_inr (trivial))
  · have hk_10 := im_118 hR.1
    have hc_11 := r_nle (rfl : (s.1 89 118).toInt = _) (rfl : (x_4).toInt = _) h_7
    refine ok_ite (fun h_12 => ?_) (fun h_13 => ?_)
    · refine ok_b1 (T_X12_ofRoom ⟨by omega, by omega⟩ ⟨by decide, by decide⟩ hR.1) (fun v_14 (hv_15 : v_14 = s.1 89 (((c16 203) + ((ci 4) * x_4)) + (ci 3)).toNatClampNeg) => ?_)
      unfold F_X12_worthOfSet_35
      exact ok_some (lp_inl ⟨rfl, (up_0 (x := x_4) (by omega) (by omega))⟩ (up_t (x := x_4) (by omega)))
    · unfold F_X12_worthOfSet_35
      exact ok_some (lp_inl ⟨rfl, (up_0 (x := x_4) (by omega) (by omega))⟩ (up_t (x := x_4) (by omega)))
end
