noncomputable section
theorem T_X12_visit {a1 : Int32} {a2 : Int32} {s : mG} (hI : IM s) : ok (F_X12_visit a1 a2 s) (fun τ => (True) ∧ RM s τ.2) := by
  have hR : RM s s := RM_refl hI
  unfold F_X12_visit
  refine ok_b1 (T_X12_isGuest hR.1) (fun v_1 (hv_2 : QG v_1 a1 (s.1 89 112)) => ?_)
  refine ok_ite (fun h_3 => ?_) (fun h_4 => ?_)
  · have hc_5 := r_eq (rfl : (v_1).toInt = _) (by decide : (0 : Int32).toInt = 0) h_3
    unfold F_X12_visit_17
    exact ok_some ⟨trivial, hR⟩
  · have hc_6 := r_ne (rfl : (v_1).toInt = _) (by decide : (0 : Int32).toInt = 0) h_4
    have hk_7 := im_112 hR.1
    have hk_8 := im_115 hR.1
    have hf_9 := hv_2.2 h_4
    refine ok_b1 (T_X12_isIn hR.1) (fun v_10 (hv_11 : QI v_10 a2 (ci 0) (ci 1)) => ?_)
    refine ok_ite (fun h_12 => ?_) (fun h_13 => ?_)
    · have hc_14 := r_eq (rfl : (v_10).toInt = _) (by decide : (0 : Int32).toInt = 0) h_12
      unfold F_X12_visit_17
      exact ok_some ⟨trivial, hR⟩
    · have hc_15 := r_ne (rfl : (v_10).toInt = _) (by decide : (0 : Int32).toInt = 0) h_13
      have hf_16 := isin_f (a := a2) (by decide : (ci 0).toInt = 0) (by decide : (ci 1).toInt = 1) (hv_11.2 h_13)
      have hk_17 := im_1049 hR.1
      have hk_18 := im_118 hR.1
      refine ok_b2 (ok_rm2 (C := fun (v : Int64) => 0 ≤ v.toInt ∧ v.toInt ≤ 1000000) hR (T_X12_sureOf ⟨by omega, by omega⟩ hR.1)) (fun v_19 s_20 (hq : (0 ≤ v_19.toInt ∧ v_19.toInt ≤ 1000000) ∧ RM s s_20) => ?_)
      obtain ⟨hv_22, hs_21⟩ := hq
      unfold F_X12_visit_L34
      refine ok_whl (fun v => a1 = v.1 ∧ a2 = v.2.1 ∧ RM s v.2.2.2.2.2.2 ∧ 0 ≤ (v.2.2.2.2.2.1).toInt) (fun v => mUp v.2.2.2.2.2.1) ⟨rfl, rfl, hs_21, (show 0 ≤ (ci 0).toInt by rw [((by decide : (ci 0).toInt = 0) : (ci 0).toInt = 0)]; omega)⟩ (fun v hv => ?_)
      obtain ⟨x_28, x_29, x_30, x_31, x_32, x_33, s_34⟩ := v
      obtain ⟨rfl, rfl, rhs_35, rhn_36⟩ := hv
      have hs_35 : RM s s_34 := rhs_35
      have hn_36 : 0 ≤ x_33.toInt := rhn_36
      clear rhs_35 rhn_36
      show ok (F_X12_visit_B34 a1 a2 x_30 x_31 x_32 x_33 s_34) _
      unfold F_X12_visit_B34
      refine ok_ite (fun h_37 => ?_) (fun h_38 => ?_)
      · have hc_39 := r_le (by decide : (c8 23).toInt = 23) (rfl : (x_33).toInt = _) h_37
        refine ok_ite (fun h_40 => ?_) (fun h_41 => ?_)
        · have hc_42 := r_eq (rfl : (a2).toInt = _) (by decide : (0 : Int32).toInt = 0) h_40
          exact ok_some (lp_inr (⟨trivial, hs_35⟩))
        · have hc_43 := r_ne (rfl : (a2).toInt = _) (by decide : (0 : Int32).toInt = 0) h_41
          exact ok_some (lp_inr (⟨trivial, hs_35⟩))
      · have hc_44 := r_nle (by decide : (c8 23).toInt = 23) (rfl : (x_33).toInt = _) h_38
        refine ok_nn (ix_ok (r_add (by decide : (c8 27).toInt = 27) (rfl : (a1).toInt = _) (by omega) (by omega)) (by omega) (by omega)) ?_
        have hk_45 := im_112 hs_35.1
        have hk_46 := rm_k 89 112 hs_35 (by decide)
        refine ok_b2 (ok_rm2 (C := fun (v : Int32) => 0 ≤ v.toInt ∧ v.toInt ≤ 1000) hs_35 (T_X12_saysIn ⟨by omega, by omega⟩ hs_35.1)) (fun v_47 s_48 (hq : (0 ≤ v_47.toInt ∧ v_47.toInt ≤ 1000) ∧ RM s s_48) => ?_)
        obtain ⟨hv_50, hs_49⟩ := hq
        refine ok_nn (ix_ok (r_add (by decide : (c8 27).toInt = 27) (rfl : (a1).toInt = _) (by omega) (by omega)) (by omega) (by omega)) ?_
        have hk_51 := im_112 hs_49.1
        have hk_52 := rm_k 89 112 hs_49 (by decide)
        refine ok_b2 (ok_rm2 (C := fun (v : Int32) => 0 ≤ v.toInt ∧ v.toInt ≤ 1000) hs_49 (T_X12_saysIn ⟨by omega, by omega⟩ hs_49.1)) (fun v_53 s_54 (hq : (0 ≤ v_53.toInt ∧ v_53.toInt ≤ 1000) ∧ RM s s_54) => ?_)
        obtain ⟨hv_56, hs_55⟩ := hq
        extract_lets +onlyGivenNames v_57
        clear_value v_57
        refine ok_ite (fun h_58 => ?_) (fun h_59 => ?_)
        · unfold F_X12_visit_154
          exact ok_some (lp_inl ⟨rfl, rfl, hs_55, (up_0 (x := x_33) (by omega) (by omega))⟩ (up_t (x := x_33) (by omega)))
        · unfold F_X12_visit_154
          exact ok_some (lp_inl ⟨rfl, rfl, hs_55, (up_0 (x := x_33) (by omega) (by omega))⟩ (up_t (x := x_33) (by omega)))
theorem T_X12_movesIn {a1 : Int32} {s : mG} (hI : IM s) : ok (F_X12_movesIn a1 s) (fun τ => (True) ∧ RM s τ.2) := by
  have hR : RM s s := RM_refl hI
  unfold F_X12_movesIn
  unfold F_X12_movesIn_L4
  refine ok_whl (fun v => a1 = v.1 ∧ RM s v.2.2.2 ∧ 0 ≤ (v.2.2.1).toInt) (fun v => mUp v.2.2.1) ⟨rfl, hR, (show 0 ≤ (ci 0).toInt by rw [((by decide : (ci 0).toInt = 0) : (ci 0).toInt = 0)]; omega)⟩ (fun v hv => ?_)
  obtain ⟨x_5, x_6, x_7, s_8⟩ := v
  obtain ⟨rfl, rhs_9, rhn_10⟩ := hv
  have hs_9 : RM s s_8 := rhs_9
  have hn_10 : 0 ≤ x_7.toInt := rhn_10
  clear rhs_9 rhn_10
  show ok (F_X12_movesIn_B4 a1 x_6 x_7 s_8) _
  unfold F_X12_movesIn_B4
  refine ok_ite (fun h_11 => ?_) (fun h_12 => ?_)
  · have hk_13 := im_112 hs_9.1
    have hk_14 := rm_k 89 112 hs_9 (by decide)
    have hc_15 := r_le (rfl : (s_8.1 89 112).toInt = _) (rfl : (x_7).toInt = _) h_11
    exact ok_some (lp_inr (⟨trivial, hs_9⟩))
  · have hk_16 := im_112 hs_9.1
    have hk_17 := rm_k 89 112 hs_9 (by decide)
    have hc_18 := r_nle (rfl : (s_8.1 89 112).toInt = _) (rfl : (x_7).toInt = _) h_12
    refine ok_nn (ix_ok (r_add (by decide : (ci 3).toInt = 3) (rfl : (x_7).toInt = _) (by omega) (by omega)) (by omega) (by omega)) ?_
    refine ok_ite (fun h_19 => ?_) (fun h_20 => ?_)
    · unfold F_X12_movesIn_36
      refine ok_nn (ix_ok (r_add (by decide : (c8 27).toInt = 27) (rfl : (x_7).toInt = _) (by omega) (by omega)) (by omega) (by omega)) ?_
      have hk_21 := im_112 hR.1
      refine ok_b2 (ok_rm2 (C := fun (v : Int32) => 0 ≤ v.toInt ∧ v.toInt ≤ 1000) hs_9 (T_X12_saysIn ⟨by omega, by omega⟩ hs_9.1)) (fun v_22 s_23 (hq : (0 ≤ v_22.toInt ∧ v_22.toInt ≤ 1000) ∧ RM s s_23) => ?_)
      obtain ⟨hv_25, hs_24⟩ := hq
      exact ok_some (lp_inl ⟨rfl, hs_24, (up_0 (x := x_7) (by omega) (by omega))⟩ (up_t (x := x_7) (by omega)))
    · unfold F_X12_movesIn_36
      refine ok_nn (ix_ok (r_add (by decide : (c8 27).toInt = 27) (rfl : (x_7).toInt = _) (by omega) (by omega)) (by omega) (by omega)) ?_
      have hk_26 := im_112 hR.1
      refine ok_b2 (ok_rm2 (C := fun (v : Int32) => 0 ≤ v.toInt ∧ v.toInt ≤ 1000) hs_9 (T_X12_saysIn ⟨by omega, by omega⟩ hs_9.1)) (fun v_27 s_28 (hq : (0 ≤ v_27.toInt ∧ v_27.toInt ≤ 1000) ∧ RM s s_28) => ?_)
      obtain ⟨hv_30, hs_29⟩ := hq
      exact ok_some (lp_inl ⟨rfl, hs_29, (up_0 (x := x_7) (by omega) (by omega))⟩ (up_t (x := x_7) (by omega)))
theorem T_X12_expect {s : mG} (hI : IM s) : ok (F_X12_expect s) (fun τ => (True) ∧ RM s τ.2) := by
  have hR : RM s s := RM_refl hI
  unfold F_X12_expect
  refine ok_b2 (ok_rm2 (C := fun (v : Int32) => True) hR (T_X12_movesIn hR.1)) (fun v_1 s_2 (hq : (True) ∧ RM s s_2) => ?_)
  obtain ⟨hv_4, hs_3⟩ := hq
  exact ok_some ⟨trivial, hs_3⟩
theorem T_X12_busy {a1 : Int32} {s : mG} (hI : IM s) : ok (F_X12_busy a1 s) (fun τ => (True) ∧ RM s τ.2) := by
  have hR : RM s s := RM_refl hI
  unfold F_X12_busy
  refine ok_b1 (T_X12_isIn hR.1) (fun v_1 (hv_2 : QI v_1 a1 (ci 0) (ci 1)) => ?_)
  refine ok_ite (fun h_3 => ?_) (fun h_4 => ?_)
  · have hc_5 := r_eq (rfl : (v_1).toInt = _) (by decide : (0 : Int32).toInt = 0) h_3
    exact ok_some ⟨trivial, hR⟩
  · have hc_6 := r_ne (rfl : (v_1).toInt = _) (by decide : (0 : Int32).toInt = 0) h_4
    have hf_7 := isin_f (a := a1) (by decide : (ci 0).toInt = 0) (by decide : (ci 1).toInt = 1) (hv_2.2 h_4)
    extract_lets +onlyGivenNames v_8
    clear_value v_8
    unfold F_X12_busy_L29
    refine ok_whl (fun v => a1 = v.1 ∧ v_8 = v.2.1 ∧ RM s v.2.2.2.2 ∧ 0 ≤ (v.2.2.2.1).toInt) (fun v => mUp v.2.2.2.1) ⟨rfl, rfl, hR, (show 0 ≤ (ci 1).toInt by rw [((by decide : (ci 1).toInt = 1) : (ci 1).toInt = 1)]; omega)⟩ (fun v hv => ?_)
    obtain ⟨x_15, x_16, x_17, x_18, s_19⟩ := v
    obtain ⟨rfl, rfl, rhs_20, rhn_21⟩ := hv
    have hs_20 : RM s s_19 := rhs_20
    have hn_21 : 0 ≤ x_18.toInt := rhn_21
    clear rhs_20 rhn_21
    show ok (F_X12_busy_B29 a1 v_8 x_17 x_18 s_19) _
    unfold F_X12_busy_B29
    refine ok_ite (fun h_22 => ?_) (fun h_23 => ?_)
    · have hc_24 := r_le (by decide : (c8 24).toInt = 24) (rfl : (x_18).toInt = _) h_22
      refine ok_ite (fun h_25 => ?_) (fun h_26 => ?_)
      · have hc_27 := r_eq (rfl : (a1).toInt = _) (by decide : (0 : Int32).toInt = 0) h_25
        exact ok_some (lp_inr (⟨trivial, hs_20⟩))
      · have hc_28 := r_ne (rfl : (a1).toInt = _) (by decide : (0 : Int32).toInt = 0) h_26
        refine ok_b2 (ok_rm2 (C := fun (v : Int32) => True) hs_20 (T_X12_movesIn hs_20.1)) (fun v_29 s_30 (hq : (True) ∧ RM s s_30) => ?_)
        obtain ⟨hv_32, hs_31⟩ := hq
        exact ok_some (lp_inr (⟨trivial, hs_31⟩))
    · have hc_33 := r_nle (by decide : (c8 24).toInt = 24) (rfl : (x_18).toInt = _) h_23
      refine ok_b2 (ok_rm2 (C := fun (v : Int32) => True) hs_20 (T_X12_movesIn hs_20.1)) (fun v_34 s_35 (hq : (True) ∧ RM s s_35) => ?_)
      obtain ⟨hv_37, hs_36⟩ := hq
      refine ok_b2 (ok_rm2 (C := fun (v : Int32) => True) hs_36 (T_X12_movesIn hs_36.1)) (fun v_38 s_39 (hq : (True) ∧ RM s s_39) => ?_)
      obtain ⟨hv_41, hs_40⟩ := hq
      refine ok_ite (fun h_42 => ?_) (fun h_43 => ?_)
      · have hc_44 := r_le (rfl : (v_34).toInt = _) (rfl : (v_38).toInt = _) h_42
        unfold F_X12_busy_57
        exact ok_some (lp_inl ⟨rfl, rfl, hs_40, (up_0 (x := x_18) (by omega) (by omega))⟩ (up_t (x := x_18) (by omega)))
      · have hc_45 := ge_t h_43
        have hc_46 := r_nle (rfl : (v_34).toInt = _) (rfl : (v_38).toInt = _) h_43
        unfold F_X12_busy_57
        exact ok_some (lp_inl ⟨rfl, rfl, hs_40, (up_0 (x := x_18) (by omega) (by omega))⟩ (up_t (x := x_18) (by omega)))
theorem T_X12_lack {a1 : Int32} {s : mG} (hI : IM s) : ok (F_X12_lack a1 s) (fun τ => (True) ∧ RM s τ.2) := by
  have hR : RM s s := RM_refl hI
  unfold F_X12_lack
  refine ok_b1 (T_X12_isIn hR.1) (fun v_1 (hv_2 : QI v_1 a1 (ci 0) (ci 2)) => ?_)
  refine ok_ite (fun h_3 => ?_) (fun h_4 => ?_)
  · have hc_5 := r_eq (rfl : (v_1).toInt = _) (by decide : (0 : Int32).toInt = 0) h_3
    exact ok_some ⟨trivial, hR⟩
  · have hc_6 := r_ne (rfl : (v_1).toInt = _) (by decide : (0 : Int32).toInt = 0) h_4
    have hf_7 := isin_f (a := a1) (by decide : (ci 0).toInt = 0) (by decide : (ci 2).toInt = 2) (hv_2.2 h_4)
    unfold F_X12_lack_L21
    refine ok_whl (fun v => a1 = v.1 ∧ RM s v.2.2.2.2.2 ∧ 0 ≤ (v.2.2.2.2.1).toInt) (fun v => mUp v.2.2.2.2.1) ⟨rfl, hR, (show 0 ≤ (ci 0).toInt by rw [((by decide : (ci 0).toInt = 0) : (ci 0).toInt = 0)]; omega)⟩ (fun v hv => ?_)
    obtain ⟨x_13, x_14, x_15, x_16, x_17, s_18⟩ := v
    obtain ⟨rfl, rhs_19, rhn_20⟩ := hv
    have hs_19 : RM s s_18 := rhs_19
    have hn_20 : 0 ≤ x_17.toInt := rhn_20
    clear rhs_19 rhn_20
    show ok (F_X12_lack_B21 a1 x_14 x_15 x_16 x_17 s_18) _
    unfold F_X12_lack_B21
    refine ok_ite (fun h_21 => ?_) (fun h_22 => ?_)
    · have hk_23 := im_112 hs_19.1
      have hk_24 := rm_k 89 112 hs_19 (by decide)
      have hc_25 := r_le (rfl : (s_18.1 89 112).toInt = _) (rfl : (x_17).toInt = _) h_21
      refine ok_ite (fun h_26 => ?_) (fun h_27 => ?_)
      · have hc_28 := r_eq (rfl : (a1).toInt = _) (by decide : (0 : Int32).toInt = 0) h_26
        exact ok_some (lp_inr (⟨trivial, hs_19⟩))
      · have hc_29 := r_ne (rfl : (a1).toInt = _) (by decide : (0 : Int32).toInt = 0) h_27
        refine ok_ite (fun h_30 => ?_) (fun h_31 => ?_)
        · have hc_32 := r_eq (rfl : (a1).toInt = _) (by decide : (ci 1).toInt = 1) h_30
          extract_lets +onlyGivenNames v_33
          clear_value v_33
          exact ok_some (lp_inr (⟨trivial, hs_19⟩))
        · have hc_34 := r_ne (rfl : (a1).toInt = _) (by decide : (ci 1).toInt = 1) h_31
          exact ok_some (lp_inr (⟨trivial, hs_19⟩))
    · have hk_35 := im_112 hs_19.1
      have hk_36 := rm_k 89 112 hs_19 (by decide)
      have hc_37 := r_nle (rfl : (s_18.1 89 112).toInt = _) (rfl : (x_17).toInt = _) h_22
      refine ok_nn (ix_ok (r_add (by decide : (c8 15).toInt = 15) (rfl : (x_17).toInt = _) (by omega) (by omega)) (by omega) (by omega)) ?_
      refine ok_ite (fun h_38 => ?_) (fun h_39 => ?_)
      · refine ok_nn (ix_ok (r_add (by decide : (ci 3).toInt = 3) (rfl : (x_17).toInt = _) (by omega) (by omega)) (by omega) (by omega)) ?_
        extract_lets +onlyGivenNames v_40
        clear_value v_40
        have hk_41 := im_112 hR.1
        have hk_42 := im_1049 hs_19.1
        have hk_43 := rm_k 89 1049 hs_19 (by decide)
        have hk_44 := im_1049 hR.1
        have hk_45 := im_118 hs_19.1
        have hk_46 := rm_k 89 118 hs_19 (by decide)
        have hk_47 := im_118 hR.1
        refine ok_b2 (ok_rm2 (C := fun (v : Int64) => 0 ≤ v.toInt ∧ v.toInt ≤ 1000000) hs_19 (T_X12_sureOf ⟨by omega, by omega⟩ hs_19.1)) (fun v_48 s_49 (hq : (0 ≤ v_48.toInt ∧ v_48.toInt ≤ 1000000) ∧ RM s s_49) => ?_)
        obtain ⟨hv_51, hs_50⟩ := hq
        extract_lets +onlyGivenNames v_52
        clear_value v_52
        unfold F_X12_lack_80
        exact ok_some (lp_inl ⟨rfl, hs_50, (up_0 (x := x_17) (by omega) (by omega))⟩ (up_t (x := x_17) (by omega)))
      · unfold F_X12_lack_80
        exact ok_some (lp_inl ⟨rfl, hs_19, (up_0 (x := x_17) (by omega) (by omega))⟩ (up_t (x := x_17) (by omega)))
theorem T_X12_empty {a1 : Int32} {s : mG} (hI : IM s) : ok (F_X12_empty a1 s) (fun τ => (True) ∧ RM s τ.2) := by
  have hR : RM s s := RM_refl hI
  unfold F_X12_empty
  refine ok_b1 (T_X12_isIn hR.1) (fun v_1 (hv_2 : QI v_1 a1 (ci 0) (ci 3)) => ?_)
  refine ok_ite (fun h_3 => ?_) (fun h_4 => ?_)
  · have hc_5 := r_eq (rfl : (v_1).toInt = _) (by decide : (0 : Int32).toInt = 0) h_3
    exact ok_some ⟨trivial, hR⟩
  · have hc_6 := r_ne (rfl : (v_1).toInt = _) (by decide : (0 : Int32).toInt = 0) h_4
    have hf_7 := isin_f (a := a1) (by decide : (ci 0).toInt = 0) (by decide : (ci 3).toInt = 3) (hv_2.2 h_4)
    unfold F_X12_empty_L18
    refine ok_whl (fun v => a1 = v.1 ∧ RM s v.2.2.2 ∧ 0 ≤ (v.2.2.1).toInt) (fun v => mUp v.2.2.1) ⟨rfl, hR, (show 0 ≤ (ci 0).toInt by rw [((by decide : (ci 0).toInt = 0) : (ci 0).toInt = 0)]; omega)⟩ (fun v hv => ?_)
    obtain ⟨x_10, x_11, x_12, s_13⟩ := v
    obtain ⟨rfl, rhs_14, rhn_15⟩ := hv
    have hs_14 : RM s s_13 := rhs_14
    have hn_15 : 0 ≤ x_12.toInt := rhn_15
    clear rhs_14 rhn_15
    show ok (F_X12_empty_B18 a1 x_11 x_12 s_13) _
    unfold F_X12_empty_B18
    refine ok_ite (fun h_16 => ?_) (fun h_17 => ?_)
    · have hk_18 := im_112 hs_14.1
      have hk_19 := rm_k 89 112 hs_14 (by decide)
      have hc_20 := r_le (rfl : (s_13.1 89 112).toInt = _) (rfl : (x_12).toInt = _) h_16
      exact ok_some (lp_inr (⟨trivial, hs_14⟩))
    · have hk_21 := im_112 hs_14.1
      have hk_22 := rm_k 89 112 hs_14 (by decide)
      have hc_23 := r_nle (rfl : (s_13.1 89 112).toInt = _) (rfl : (x_12).toInt = _) h_17
      refine ok_nn (ix_ok (r_add (by decide : (c8 119).toInt = 119) (rfl : (x_12).toInt = _) (by omega) (by omega)) (by omega) (by omega)) ?_
      refine ok_ite (fun h_24 => ?_) (fun h_25 => ?_)
      · have hk_26 := im_112 hR.1
        have hk_27 := im_1049 hs_14.1
        have hk_28 := rm_k 89 1049 hs_14 (by decide)
        have hk_29 := im_1049 hR.1
        have hk_30 := im_118 hs_14.1
        have hk_31 := rm_k 89 118 hs_14 (by decide)
        have hk_32 := im_118 hR.1
        refine ok_b2 (ok_rm2 (C := fun (v : Int64) => 0 ≤ v.toInt ∧ v.toInt ≤ 1000000) hs_14 (T_X12_sureOf ⟨by omega, by omega⟩ hs_14.1)) (fun v_33 s_34 (hq : (0 ≤ v_33.toInt ∧ v_33.toInt ≤ 1000000) ∧ RM s s_34) => ?_)
        obtain ⟨hv_36, hs_35⟩ := hq
        unfold F_X12_empty_64
        exact ok_some (lp_inl ⟨rfl, hs_35, (up_0 (x := x_12) (by omega) (by omega))⟩ (up_t (x := x_12) (by omega)))
      · unfold F_X12_empty_64
        exact ok_some (lp_inl ⟨rfl, hs_14, (up_0 (x := x_12) (by omega) (by omega))⟩ (up_t (x := x_12) (by omega)))
end
