noncomputable section
theorem T_X12_lastSawBy {s : mG} {a1 : Int32} (hI : IM s) : ok (F_X12_lastSawBy s a1) (fun (v : Int32) => True) := by
  have hR : RM s s := RM_refl hI
  unfold F_X12_lastSawBy
  unfold F_X12_lastSawBy_L4
  refine ok_whl (fun v => a1 = v.1 ∧ 0 ≤ (v.2.2).toInt) (fun v => mUp v.2.2) ⟨rfl, (show 0 ≤ (ci 0).toInt by rw [((by decide : (ci 0).toInt = 0) : (ci 0).toInt = 0)]; omega)⟩ (fun v hv => ?_)
  obtain ⟨x_3, x_4, x_5⟩ := v
  obtain ⟨rfl, rhn_6⟩ := hv
  have hn_6 : 0 ≤ x_5.toInt := rhn_6
  clear rhn_6
  show ok (F_X12_lastSawBy_B4 s a1 x_4 x_5) _
  unfold F_X12_lastSawBy_B4
  refine ok_ite (fun h_7 => ?_) (fun h_8 => ?_)
  · have hk_9 := im_2 hR.1
    have hc_10 := r_le (rfl : (s.1 89 2).toInt = _) (rfl : (x_5).toInt = _) h_7
    exact ok_some (lp_inr (trivial))
  · have hk_11 := im_2 hR.1
    have hc_12 := r_nle (rfl : (s.1 89 2).toInt = _) (rfl : (x_5).toInt = _) h_8
    extract_lets +onlyGivenNames v_13
    have he_14 : v_13.toInt = (235 + (5 * (x_5).toInt)) := (r_add (by decide : (c16 235).toInt = 235) (r_mul (by decide : (ci 5).toInt = 5) (rfl : (x_5).toInt = _) (by omega) (by omega)) (by omega) (by omega))
    clear_value v_13
    refine ok_nn (ix_ok (r_add he_14 (by decide : (ci 1).toInt = 1) (by omega) (by omega)) (by omega) (by omega)) ?_
    refine ok_ite (fun h_15 => ?_) (fun h_16 => ?_)
    · refine ok_nn (ix_ok (r_add he_14 (by decide : (ci 2).toInt = 2) (by omega) (by omega)) (by omega) (by omega)) ?_
      refine ok_ite (fun h_17 => ?_) (fun h_18 => ?_)
      · refine ok_nn (ix_ok (r_add he_14 (by decide : (ci 4).toInt = 4) (by omega) (by omega)) (by omega) (by omega)) ?_
        extract_lets +onlyGivenNames v_19
        clear_value v_19
        unfold F_X12_lastSawBy_58
        exact ok_some (lp_inl ⟨rfl, (up_0 (x := x_5) (by omega) (by omega))⟩ (up_t (x := x_5) (by omega)))
      · unfold F_X12_lastSawBy_58
        exact ok_some (lp_inl ⟨rfl, (up_0 (x := x_5) (by omega) (by omega))⟩ (up_t (x := x_5) (by omega)))
    · unfold F_X12_lastSawBy_58
      exact ok_some (lp_inl ⟨rfl, (up_0 (x := x_5) (by omega) (by omega))⟩ (up_t (x := x_5) (by omega)))
theorem T_X12_tellsOn {s : mG} {a1 : Int32} (hI : IM s) : ok (F_X12_tellsOn s a1) (fun (v : Int32) => True) := by
  have hR : RM s s := RM_refl hI
  unfold F_X12_tellsOn
  refine ok_b1 (T_X12_isIn hR.1) (fun v_1 (hv_2 : QI v_1 a1 (ci 0) (ci 3)) => ?_)
  refine ok_ite (fun h_3 => ?_) (fun h_4 => ?_)
  · have hc_5 := r_eq (rfl : (v_1).toInt = _) (by decide : (0 : Int32).toInt = 0) h_3
    exact ok_some trivial
  · have hc_6 := r_ne (rfl : (v_1).toInt = _) (by decide : (0 : Int32).toInt = 0) h_4
    have hf_7 := isin_f (a := a1) (by decide : (ci 0).toInt = 0) (by decide : (ci 3).toInt = 3) (hv_2.2 h_4)
    unfold F_X12_tellsOn_L15
    refine ok_whl (fun v => a1 = v.1 ∧ 0 ≤ (v.2.2).toInt) (fun v => mUp v.2.2) ⟨rfl, (show 0 ≤ (ci 0).toInt by rw [((by decide : (ci 0).toInt = 0) : (ci 0).toInt = 0)]; omega)⟩ (fun v hv => ?_)
    obtain ⟨x_9, x_10, x_11⟩ := v
    obtain ⟨rfl, rhn_12⟩ := hv
    have hn_12 : 0 ≤ x_11.toInt := rhn_12
    clear rhn_12
    show ok (F_X12_tellsOn_B15 s a1 x_10 x_11) _
    unfold F_X12_tellsOn_B15
    refine ok_ite (fun h_13 => ?_) (fun h_14 => ?_)
    · have hk_15 := im_112 hR.1
      have hc_16 := r_le (rfl : (s.1 89 112).toInt = _) (rfl : (x_11).toInt = _) h_13
      exact ok_some (lp_inr (trivial))
    · have hk_17 := im_112 hR.1
      have hc_18 := r_nle (rfl : (s.1 89 112).toInt = _) (rfl : (x_11).toInt = _) h_14
      refine ok_nn (ix_ok (r_add (by decide : (ci 3).toInt = 3) (rfl : (x_11).toInt = _) (by omega) (by omega)) (by omega) (by omega)) ?_
      refine ok_ite (fun h_19 => ?_) (fun h_20 => ?_)
      · refine ok_b1 (T_X12_lastSawBy hR.1) (fun v_21 _ => ?_)
        refine ok_ite (fun h_23 => ?_) (fun h_24 => ?_)
        · have hc_25 := r_eq (rfl : (v_21).toInt = _) (rfl : (a1).toInt = _) h_23
          unfold F_X12_tellsOn_55
          exact ok_some (lp_inl ⟨rfl, (up_0 (x := x_11) (by omega) (by omega))⟩ (up_t (x := x_11) (by omega)))
        · have hc_26 := r_ne (rfl : (v_21).toInt = _) (rfl : (a1).toInt = _) h_24
          unfold F_X12_tellsOn_54
          unfold F_X12_tellsOn_55
          exact ok_some (lp_inl ⟨rfl, (up_0 (x := x_11) (by omega) (by omega))⟩ (up_t (x := x_11) (by omega)))
      · unfold F_X12_tellsOn_54
        unfold F_X12_tellsOn_55
        exact ok_some (lp_inl ⟨rfl, (up_0 (x := x_11) (by omega) (by omega))⟩ (up_t (x := x_11) (by omega)))
theorem T_X12_saw {s : mG} {a1 : Int32} {a2 : Int32} (hI : IM s) : ok (F_X12_saw s a1 a2) (fun (v : Int32) => True) := by
  have hR : RM s s := RM_refl hI
  unfold F_X12_saw
  refine ok_b1 (T_X12_isGuest hR.1) (fun v_1 (hv_2 : QG v_1 a1 (s.1 89 112)) => ?_)
  refine ok_ite (fun h_3 => ?_) (fun h_4 => ?_)
  · have hc_5 := r_eq (rfl : (v_1).toInt = _) (by decide : (0 : Int32).toInt = 0) h_3
    unfold F_X12_saw_17
    exact ok_some trivial
  · have hc_6 := r_ne (rfl : (v_1).toInt = _) (by decide : (0 : Int32).toInt = 0) h_4
    have hk_7 := im_112 hR.1
    have hk_8 := im_115 hR.1
    have hf_9 := hv_2.2 h_4
    refine ok_b1 (T_X12_isIn hR.1) (fun v_10 (hv_11 : QI v_10 a2 (ci 0) (ci 1)) => ?_)
    refine ok_ite (fun h_12 => ?_) (fun h_13 => ?_)
    · have hc_14 := r_eq (rfl : (v_10).toInt = _) (by decide : (0 : Int32).toInt = 0) h_12
      unfold F_X12_saw_17
      exact ok_some trivial
    · have hc_15 := r_ne (rfl : (v_10).toInt = _) (by decide : (0 : Int32).toInt = 0) h_13
      have hf_16 := isin_f (a := a2) (by decide : (ci 0).toInt = 0) (by decide : (ci 1).toInt = 1) (hv_11.2 h_13)
      unfold F_X12_saw_L24
      refine ok_whl (fun v => a1 = v.1 ∧ a2 = v.2.1 ∧ 0 ≤ (v.2.2.2).toInt) (fun v => mUp v.2.2.2) ⟨rfl, rfl, (show 0 ≤ (ci 0).toInt by rw [((by decide : (ci 0).toInt = 0) : (ci 0).toInt = 0)]; omega)⟩ (fun v hv => ?_)
      obtain ⟨x_18, x_19, x_20, x_21⟩ := v
      obtain ⟨rfl, rfl, rhn_22⟩ := hv
      have hn_22 : 0 ≤ x_21.toInt := rhn_22
      clear rhn_22
      show ok (F_X12_saw_B24 s a1 a2 x_20 x_21) _
      unfold F_X12_saw_B24
      refine ok_ite (fun h_23 => ?_) (fun h_24 => ?_)
      · have hk_25 := im_2 hR.1
        have hc_26 := r_le (rfl : (s.1 89 2).toInt = _) (rfl : (x_21).toInt = _) h_23
        exact ok_some (lp_inr (trivial))
      · have hk_27 := im_2 hR.1
        have hc_28 := r_nle (rfl : (s.1 89 2).toInt = _) (rfl : (x_21).toInt = _) h_24
        extract_lets +onlyGivenNames v_29
        have he_30 : v_29.toInt = (235 + (5 * (x_21).toInt)) := (r_add (by decide : (c16 235).toInt = 235) (r_mul (by decide : (ci 5).toInt = 5) (rfl : (x_21).toInt = _) (by omega) (by omega)) (by omega) (by omega))
        clear_value v_29
        refine ok_nn (ix_ok (r_add he_30 (by decide : (ci 1).toInt = 1) (by omega) (by omega)) (by omega) (by omega)) ?_
        refine ok_ite (fun h_31 => ?_) (fun h_32 => ?_)
        · unfold F_X12_saw_98
          unfold F_X12_saw_99
          exact ok_some (lp_inl ⟨rfl, rfl, (up_0 (x := x_21) (by omega) (by omega))⟩ (up_t (x := x_21) (by omega)))
        · refine ok_nn (ix_ok (r_add he_30 (by decide : (ci 2).toInt = 2) (by omega) (by omega)) (by omega) (by omega)) ?_
          refine ok_ite (fun h_33 => ?_) (fun h_34 => ?_)
          · refine ok_nn (ix_ok (r_add he_30 (by decide : (ci 4).toInt = 4) (by omega) (by omega)) (by omega) (by omega)) ?_
            refine ok_ite (fun h_35 => ?_) (fun h_36 => ?_)
            · unfold F_X12_saw_90
              refine ok_ite (fun h_37 => ?_) (fun h_38 => ?_)
              · have hc_39 := r_eq (by decide : (ci 1).toInt = 1) (rfl : (a2).toInt = _) h_37
                unfold F_X12_saw_99
                exact ok_some (lp_inl ⟨rfl, rfl, (up_0 (x := x_21) (by omega) (by omega))⟩ (up_t (x := x_21) (by omega)))
              · have hc_40 := r_ne (by decide : (ci 1).toInt = 1) (rfl : (a2).toInt = _) h_38
                unfold F_X12_saw_98
                unfold F_X12_saw_99
                exact ok_some (lp_inl ⟨rfl, rfl, (up_0 (x := x_21) (by omega) (by omega))⟩ (up_t (x := x_21) (by omega)))
            · unfold F_X12_saw_90
              refine ok_ite (fun h_41 => ?_) (fun h_42 => ?_)
              · have hc_43 := r_eq (by decide : (ci 0).toInt = 0) (rfl : (a2).toInt = _) h_41
                unfold F_X12_saw_99
                exact ok_some (lp_inl ⟨rfl, rfl, (up_0 (x := x_21) (by omega) (by omega))⟩ (up_t (x := x_21) (by omega)))
              · have hc_44 := r_ne (by decide : (ci 0).toInt = 0) (rfl : (a2).toInt = _) h_42
                unfold F_X12_saw_98
                unfold F_X12_saw_99
                exact ok_some (lp_inl ⟨rfl, rfl, (up_0 (x := x_21) (by omega) (by omega))⟩ (up_t (x := x_21) (by omega)))
          · unfold F_X12_saw_98
            unfold F_X12_saw_99
            exact ok_some (lp_inl ⟨rfl, rfl, (up_0 (x := x_21) (by omega) (by omega))⟩ (up_t (x := x_21) (by omega)))
theorem T_X12_by {s : mG} {a1 : Int32} {a2 : Int32} (hI : IM s) : ok (F_X12_by s a1 a2) (fun (v : Int32) => True) := by
  have hR : RM s s := RM_refl hI
  unfold F_X12_by
  refine ok_b1 (T_X12_isIn hR.1) (fun v_1 (hv_2 : QI v_1 a1 (ci 0) (ci 1)) => ?_)
  refine ok_ite (fun h_3 => ?_) (fun h_4 => ?_)
  · have hc_5 := r_eq (rfl : (v_1).toInt = _) (by decide : (0 : Int32).toInt = 0) h_3
    unfold F_X12_by_18
    exact ok_some trivial
  · have hc_6 := r_ne (rfl : (v_1).toInt = _) (by decide : (0 : Int32).toInt = 0) h_4
    have hf_7 := isin_f (a := a1) (by decide : (ci 0).toInt = 0) (by decide : (ci 1).toInt = 1) (hv_2.2 h_4)
    refine ok_b1 (T_X12_isIn hR.1) (fun v_8 (hv_9 : QI v_8 a2 (ci 0) (ci 1)) => ?_)
    refine ok_ite (fun h_10 => ?_) (fun h_11 => ?_)
    · have hc_12 := r_eq (rfl : (v_8).toInt = _) (by decide : (0 : Int32).toInt = 0) h_10
      unfold F_X12_by_18
      exact ok_some trivial
    · have hc_13 := r_ne (rfl : (v_8).toInt = _) (by decide : (0 : Int32).toInt = 0) h_11
      have hf_14 := isin_f (a := a2) (by decide : (ci 0).toInt = 0) (by decide : (ci 1).toInt = 1) (hv_9.2 h_11)
      unfold F_X12_by_L25
      refine ok_whl (fun v => a1 = v.1 ∧ a2 = v.2.1 ∧ 0 ≤ (v.2.2.2).toInt) (fun v => mUp v.2.2.2) ⟨rfl, rfl, (show 0 ≤ (ci 0).toInt by rw [((by decide : (ci 0).toInt = 0) : (ci 0).toInt = 0)]; omega)⟩ (fun v hv => ?_)
      obtain ⟨x_15, x_16, x_17, x_18⟩ := v
      obtain ⟨rfl, rfl, rhn_19⟩ := hv
      have hn_19 : 0 ≤ x_18.toInt := rhn_19
      clear rhn_19
      show ok (F_X12_by_B25 s a1 a2 x_17 x_18) _
      unfold F_X12_by_B25
      refine ok_ite (fun h_20 => ?_) (fun h_21 => ?_)
      · have hk_22 := im_2 hR.1
        have hc_23 := r_le (rfl : (s.1 89 2).toInt = _) (rfl : (x_18).toInt = _) h_20
        exact ok_some (lp_inr (trivial))
      · have hk_24 := im_2 hR.1
        have hc_25 := r_nle (rfl : (s.1 89 2).toInt = _) (rfl : (x_18).toInt = _) h_21
        refine ok_nn (ix_ok (r_add (r_add (by decide : (c16 235).toInt = 235) (r_mul (by decide : (ci 5).toInt = 5) (rfl : (x_18).toInt = _) (by omega) (by omega)) (by omega) (by omega)) (by decide : (ci 1).toInt = 1) (by omega) (by omega)) (by omega) (by omega)) ?_
        refine ok_ite (fun h_26 => ?_) (fun h_27 => ?_)
        · have hc_28 := r_eq (rfl : (a2).toInt = _) (by decide : (0 : Int32).toInt = 0) h_26
          unfold F_X12_by_61
          refine ok_ite (fun h_29 => ?_) (fun h_30 => ?_)
          · refine ok_nn (ix_ok (r_add (r_add (by decide : (c16 235).toInt = 235) (r_mul (by decide : (ci 5).toInt = 5) (rfl : (x_18).toInt = _) (by omega) (by omega)) (by omega) (by omega)) (by decide : (ci 3).toInt = 3) (by omega) (by omega)) (by omega) (by omega)) ?_
            refine ok_ite (fun h_31 => ?_) (fun h_32 => ?_)
            · unfold F_X12_by_88
              exact ok_some (lp_inl ⟨rfl, rfl, (up_0 (x := x_18) (by omega) (by omega))⟩ (up_t (x := x_18) (by omega)))
            · unfold F_X12_by_87
              unfold F_X12_by_88
              exact ok_some (lp_inl ⟨rfl, rfl, (up_0 (x := x_18) (by omega) (by omega))⟩ (up_t (x := x_18) (by omega)))
          · unfold F_X12_by_87
            unfold F_X12_by_88
            exact ok_some (lp_inl ⟨rfl, rfl, (up_0 (x := x_18) (by omega) (by omega))⟩ (up_t (x := x_18) (by omega)))
        · have hc_33 := r_ne (rfl : (a2).toInt = _) (by decide : (0 : Int32).toInt = 0) h_27
          unfold F_X12_by_61
          refine ok_ite (fun h_34 => ?_) (fun h_35 => ?_)
          · refine ok_nn (ix_ok (r_add (r_add (by decide : (c16 235).toInt = 235) (r_mul (by decide : (ci 5).toInt = 5) (rfl : (x_18).toInt = _) (by omega) (by omega)) (by omega) (by omega)) (by decide : (ci 3).toInt = 3) (by omega) (by omega)) (by omega) (by omega)) ?_
            refine ok_ite (fun h_36 => ?_) (fun h_37 => ?_)
            · unfold F_X12_by_88
              exact ok_some (lp_inl ⟨rfl, rfl, (up_0 (x := x_18) (by omega) (by omega))⟩ (up_t (x := x_18) (by omega)))
            · unfold F_X12_by_87
              unfold F_X12_by_88
              exact ok_some (lp_inl ⟨rfl, rfl, (up_0 (x := x_18) (by omega) (by omega))⟩ (up_t (x := x_18) (by omega)))
          · unfold F_X12_by_87
            unfold F_X12_by_88
            exact ok_some (lp_inl ⟨rfl, rfl, (up_0 (x := x_18) (by omega) (by omega))⟩ (up_t (x := x_18) (by omega)))
theorem T_X12_carries {s : mG} (hI : IM s) : ok (F_X12_carries s) (fun τ => (True) ∧ RM s τ.2) := by
  have hR : RM s s := RM_refl hI
  unfold F_X12_carries
  unfold F_X12_carries_L4
  refine ok_whl (fun v => RM s v.2.2 ∧ 0 ≤ (v.2.1).toInt ∧ (-1 ≤ (v.1).toInt ∧ (v.1).toInt < 12)) (fun v => mUp v.2.1) ⟨hR, (show 0 ≤ (ci 0).toInt by rw [((by decide : (ci 0).toInt = 0) : (ci 0).toInt = 0)]; omega), (show -1 ≤ (ci (-1)).toInt ∧ (ci (-1)).toInt < 12 by rw [((by decide : (ci (-1)).toInt = (-1)) : (ci (-1)).toInt = (-1))]; exact ⟨by omega, by omega⟩)⟩ (fun v hv => ?_)
  obtain ⟨x_5, x_6, s_7⟩ := v
  obtain ⟨rhs_8, rhn_9, rhn_10⟩ := hv
  have hs_8 : RM s s_7 := rhs_8
  have hn_9 : 0 ≤ x_6.toInt := rhn_9
  have hn_10 : -1 ≤ (x_5).toInt ∧ (x_5).toInt < 12 := rhn_10
  clear rhs_8 rhn_9 rhn_10
  show ok (F_X12_carries_B4 x_5 x_6 s_7) _
  unfold F_X12_carries_B4
  refine ok_ite (fun h_11 => ?_) (fun h_12 => ?_)
  · have hk_13 := im_112 hs_8.1
    have hk_14 := rm_k 89 112 hs_8 (by decide)
    have hc_15 := r_le (rfl : (s_7.1 89 112).toInt = _) (rfl : (x_6).toInt = _) h_11
    exact ok_some (lp_inr (⟨trivial, hs_8⟩))
  · have hk_16 := im_112 hs_8.1
    have hk_17 := rm_k 89 112 hs_8 (by decide)
    have hc_18 := r_nle (rfl : (s_7.1 89 112).toInt = _) (rfl : (x_6).toInt = _) h_12
    refine ok_ite (fun h_19 => ?_) (fun h_20 => ?_)
    · have hc_21 := r_eq (rfl : (x_5).toInt = _) (by decide : (ci (-1)).toInt = (-1)) h_19
      unfold F_X12_carries_37
      unfold F_X12_carries_39
      exact ok_some (lp_inl ⟨hs_8, (up_0 (x := x_6) (by omega) (by omega)), (show -1 ≤ (x_6).toInt ∧ (x_6).toInt < 12 from ⟨by omega, by omega⟩)⟩ (up_t (x := x_6) (by omega)))
    · have hc_22 := r_ne (rfl : (x_5).toInt = _) (by decide : (ci (-1)).toInt = (-1)) h_20
      have hk_23 := im_112 hR.1
      refine ok_b2 (ok_rm2 (C := fun (v : Int32) => 0 ≤ v.toInt ∧ v.toInt ≤ 1000) hs_8 (T_X12_saysNow ⟨by omega, by omega⟩ hs_8.1)) (fun v_24 s_25 (hq : (0 ≤ v_24.toInt ∧ v_24.toInt ≤ 1000) ∧ RM s s_25) => ?_)
      obtain ⟨hv_27, hs_26⟩ := hq
      have hk_28 := im_112 hs_26.1
      have hk_29 := rm_k 89 112 hs_26 (by decide)
      refine ok_b2 (ok_rm2 (C := fun (v : Int32) => 0 ≤ v.toInt ∧ v.toInt ≤ 1000) hs_26 (T_X12_saysNow ⟨by omega, by omega⟩ hs_26.1)) (fun v_30 s_31 (hq : (0 ≤ v_30.toInt ∧ v_30.toInt ≤ 1000) ∧ RM s s_31) => ?_)
      obtain ⟨hv_33, hs_32⟩ := hq
      refine ok_ite (fun h_34 => ?_) (fun h_35 => ?_)
      · have hc_36 := r_le (rfl : (v_24).toInt = _) (rfl : (v_30).toInt = _) h_34
        unfold F_X12_carries_39
        exact ok_some (lp_inl ⟨hs_32, (up_0 (x := x_6) (by omega) (by omega)), (show -1 ≤ (x_5).toInt ∧ (x_5).toInt < 12 from ⟨by omega, by omega⟩)⟩ (up_t (x := x_6) (by omega)))
      · have hc_37 := ge_t h_35
        have hc_38 := r_nle (rfl : (v_24).toInt = _) (rfl : (v_30).toInt = _) h_35
        unfold F_X12_carries_37
        unfold F_X12_carries_39
        exact ok_some (lp_inl ⟨hs_32, (up_0 (x := x_6) (by omega) (by omega)), (show -1 ≤ (x_6).toInt ∧ (x_6).toInt < 12 from ⟨by omega, by omega⟩)⟩ (up_t (x := x_6) (by omega)))
end
