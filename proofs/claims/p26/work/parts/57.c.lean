noncomputable section
theorem T_X12_bySign {s : mG} {a1 : Int64} {a2 a3 : Int32} (h_p : 0 ≤ a1.toInt ∧ a1.toInt ≤ 1000000) (h_a2 : 0 ≤ a2.toInt ∧ a2.toInt < (s.1 89 115).toInt) (hI : IM s) : ok (F_X12_bySign s a1 a2 a3) (fun v => 0 ≤ v.toInt ∧ v.toInt ≤ 1000000) := by
  have i := im_115 hI
  unfold F_X12_bySign
  refine ok_nn (ix_ok (r_add (by decide : (c16 143).toInt = 143) (r_mul (by decide : (ci 2).toInt = 2) (rfl : a2.toInt = _) (by omega) (by omega)) (by omega) (by omega)) (by omega) (by omega)) ?_
  extract_lets +onlyGivenNames v2
  have h2 : 1 ≤ v2.toInt ∧ v2.toInt ≤ 999 := im_sign hI h_a2.1 h_a2.2
  clear_value v2
  refine ok_nn (ix_ok (r_add (r_add (by decide : (c16 143).toInt = 143) (r_mul (by decide : (ci 2).toInt = 2) (rfl : a2.toInt = _) (by omega) (by omega)) (by omega) (by omega)) (by decide : (ci 1).toInt = 1) (by omega) (by omega)) (by omega) (by omega)) ?_
  extract_lets +onlyGivenNames v4
  have h4 : 1 ≤ v4.toInt ∧ v4.toInt ≤ 999 := im_sign2 hI h_a2.1 h_a2.2
  clear_value v4
  refine ok_ite (fun _ => ?_) (fun _ => ?_)
  · refine ok_b1 (T_X12_byA h_p (i64_r h2) (i64_r h4) hI) (fun v hv => ?_)
    exact ok_some hv
  · refine ok_b1 (T_X12_byA h_p (i64_r (s1000 h2)) (i64_r (s1000 h4)) hI) (fun v hv => ?_)
    exact ok_some hv
theorem T_X12_sureOf {a1 : Int32} {s : mG} (h_a1 : 0 ≤ a1.toInt ∧ a1.toInt < 12) (hI : IM s) : ok (F_X12_sureOf a1 s) (fun τ => (0 ≤ τ.1.toInt ∧ τ.1.toInt ≤ 1000000) ∧ RM s τ.2) := by
  have hR : RM s s := RM_refl hI
  unfold F_X12_sureOf
  have hk_1 := im_112 hR.1
  refine ok_b2 (ok_rm2 (C := fun (v : Int32) => 0 ≤ v.toInt ∧ v.toInt ≤ 1000) hR (T_X12_saysNow ⟨by omega, by omega⟩ hR.1)) (fun v_2 s_3 (hq : (0 ≤ v_2.toInt ∧ v_2.toInt ≤ 1000) ∧ RM s s_3) => ?_)
  obtain ⟨hv_5, hs_4⟩ := hq
  extract_lets +onlyGivenNames v_6
  have hw_7 : 0 ≤ v_6.toInt ∧ v_6.toInt ≤ 1000000 := say_k ⟨by omega, by omega⟩
  clear_value v_6
  unfold F_X12_sureOf_L16
  refine ok_whl (fun v => a1 = v.1 ∧ RM s v.2.2.2 ∧ 0 ≤ (v.2.2.1).toInt ∧ (0 ≤ (v.2.1).toInt ∧ (v.2.1).toInt ≤ 1000000)) (fun v => mUp v.2.2.1) ⟨rfl, hs_4, (show 0 ≤ (ci 0).toInt by rw [((by decide : (ci 0).toInt = 0) : (ci 0).toInt = 0)]; omega), (show 0 ≤ (v_6).toInt ∧ (v_6).toInt ≤ 1000000 from ⟨by omega, by omega⟩)⟩ (fun v hv => ?_)
  obtain ⟨x_9, x_10, x_11, s_12⟩ := v
  obtain ⟨rfl, rhs_13, rhn_14, rhn_15⟩ := hv
  have hs_13 : RM s s_12 := rhs_13
  have hn_14 : 0 ≤ x_11.toInt := rhn_14
  have hn_15 : 0 ≤ (x_10).toInt ∧ (x_10).toInt ≤ 1000000 := rhn_15
  clear rhs_13 rhn_14 rhn_15
  show ok (F_X12_sureOf_B16 a1 x_10 x_11 s_12) _
  unfold F_X12_sureOf_B16
  refine ok_ite (fun h_16 => ?_) (fun h_17 => ?_)
  · have hk_18 := im_115 hs_13.1
    have hk_19 := rm_k 89 115 hs_13 (by decide)
    have hc_20 := r_le (rfl : (s_12.1 89 115).toInt = _) (rfl : (x_11).toInt = _) h_16
    have hz_21 : 0 ≤ x_10.toInt ∧ x_10.toInt ≤ 1000000 := ⟨by omega, by omega⟩
    exact ok_some (lp_inr (⟨hz_21, hs_13⟩))
  · have hk_22 := im_115 hs_13.1
    have hk_23 := rm_k 89 115 hs_13 (by decide)
    have hc_24 := r_nle (rfl : (s_12.1 89 115).toInt = _) (rfl : (x_11).toInt = _) h_17
    refine ok_nn (ix_ok (r_add (r_add (by decide : (c8 39).toInt = 39) (r_mul (by decide : (c8 6).toInt = 6) (rfl : (a1).toInt = _) (by omega) (by omega)) (by omega) (by omega)) (rfl : (x_11).toInt = _) (by omega) (by omega)) (by omega) (by omega)) ?_
    refine ok_ite (fun h_25 => ?_) (fun h_26 => ?_)
    · unfold F_X12_sureOf_70
      exact ok_some (lp_inl ⟨rfl, hs_13, (up_0 (x := x_11) (by omega) (by omega)), (show 0 ≤ (x_10).toInt ∧ (x_10).toInt ≤ 1000000 from ⟨by omega, by omega⟩)⟩ (up_t (x := x_11) (by omega)))
    · refine ok_nn (ix_ok (r_add (r_add (by decide : (c8 39).toInt = 39) (r_mul (by decide : (c8 6).toInt = 6) (rfl : (a1).toInt = _) (by omega) (by omega)) (by omega) (by omega)) (rfl : (x_11).toInt = _) (by omega) (by omega)) (by omega) (by omega)) ?_
      have hk_27 := im_115 hR.1
      refine ok_b1 (T_X12_bySign ⟨by omega, by omega⟩ ⟨by omega, by omega⟩ hs_13.1) (fun v_28 (hv_29 : 0 ≤ v_28.toInt ∧ v_28.toInt ≤ 1000000) => ?_)
      unfold F_X12_sureOf_70
      exact ok_some (lp_inl ⟨rfl, hs_13, (up_0 (x := x_11) (by omega) (by omega)), (show 0 ≤ (v_28).toInt ∧ (v_28).toInt ≤ 1000000 from ⟨by omega, by omega⟩)⟩ (up_t (x := x_11) (by omega)))
theorem T_X12_surer {s : mG} {a1 : Int64} (hI : IM s) : ok (F_X12_surer s a1) (fun (v : Int64) => True) := by
  have hR : RM s s := RM_refl hI
  unfold F_X12_surer
  refine ok_ite (fun h_1 => ?_) (fun h_2 => ?_)
  · exact ok_some trivial
  · exact ok_some trivial
theorem T_X12_seeing {s : mG} {a1 : Int64} {a2 : Int32} (h_a2 : 0 ≤ a2.toInt ∧ a2.toInt < 6) (hI : IM s) : ok (F_X12_seeing s a1 a2) (fun (v : Int64) => True) := by
  have hR : RM s s := RM_refl hI
  unfold F_X12_seeing
  refine ok_nn (ix_ok (r_add (by decide : (c16 143).toInt = 143) (r_mul (by decide : (ci 2).toInt = 2) (rfl : (a2).toInt = _) (by omega) (by omega)) (by omega) (by omega)) (by omega) (by omega)) ?_
  refine ok_nn (ix_ok (r_add (r_add (by decide : (c16 143).toInt = 143) (r_mul (by decide : (ci 2).toInt = 2) (rfl : (a2).toInt = _) (by omega) (by omega)) (by omega) (by omega)) (by decide : (ci 1).toInt = 1) (by omega) (by omega)) (by omega) (by omega)) ?_
  exact ok_some trivial
theorem T_X12_worthOf {s : mG} {a1 : Int64} {a2 : Int32} (h_p : 0 ≤ a1.toInt ∧ a1.toInt ≤ 1000000) (h_a2 : 0 ≤ a2.toInt ∧ a2.toInt < (s.1 89 115).toInt) (hI : IM s) : ok (F_X12_worthOf s a1 a2) (fun (v : Int64) => True) := by
  have hR : RM s s := RM_refl hI
  unfold F_X12_worthOf
  have hk_1 := im_115 hR.1
  refine ok_b1 (T_X12_seeing ⟨by omega, by omega⟩ hR.1) (fun v_2 _ => ?_)
  refine ok_b1 (T_X12_bySign ⟨by omega, by omega⟩ ⟨by omega, by omega⟩ hR.1) (fun v_4 (hv_5 : 0 ≤ v_4.toInt ∧ v_4.toInt ≤ 1000000) => ?_)
  refine ok_b1 (T_X12_surer hR.1) (fun v_6 _ => ?_)
  refine ok_b1 (T_X12_bySign ⟨by omega, by omega⟩ ⟨by omega, by omega⟩ hR.1) (fun v_8 (hv_9 : 0 ≤ v_8.toInt ∧ v_8.toInt ≤ 1000000) => ?_)
  refine ok_b1 (T_X12_surer hR.1) (fun v_10 _ => ?_)
  exact ok_some trivial
theorem T_X12_lookedAt {s : mG} {a1 : Int32} (h_a1 : 0 ≤ a1.toInt ∧ a1.toInt < 12) (hI : IM s) : ok (F_X12_lookedAt s a1) (fun (v : Int32) => True) := by
  have hR : RM s s := RM_refl hI
  unfold F_X12_lookedAt
  unfold F_X12_lookedAt_L4
  refine ok_whl (fun v => a1 = v.1 ∧ 0 ≤ (v.2.2).toInt) (fun v => mUp v.2.2) ⟨rfl, (show 0 ≤ (ci 0).toInt by rw [((by decide : (ci 0).toInt = 0) : (ci 0).toInt = 0)]; omega)⟩ (fun v hv => ?_)
  obtain ⟨x_1, x_2, x_3⟩ := v
  obtain ⟨rfl, rhn_4⟩ := hv
  have hn_4 : 0 ≤ x_3.toInt := rhn_4
  clear rhn_4
  show ok (F_X12_lookedAt_B4 s a1 x_2 x_3) _
  unfold F_X12_lookedAt_B4
  refine ok_ite (fun h_5 => ?_) (fun h_6 => ?_)
  · have hk_7 := im_115 hR.1
    have hc_8 := r_le (rfl : (s.1 89 115).toInt = _) (rfl : (x_3).toInt = _) h_5
    exact ok_some (lp_inr (trivial))
  · have hk_9 := im_115 hR.1
    have hc_10 := r_nle (rfl : (s.1 89 115).toInt = _) (rfl : (x_3).toInt = _) h_6
    refine ok_nn (ix_ok (r_add (r_add (by decide : (c8 39).toInt = 39) (r_mul (by decide : (c8 6).toInt = 6) (rfl : (a1).toInt = _) (by omega) (by omega)) (by omega) (by omega)) (rfl : (x_3).toInt = _) (by omega) (by omega)) (by omega) (by omega)) ?_
    refine ok_ite (fun h_11 => ?_) (fun h_12 => ?_)
    · unfold F_X12_lookedAt_41
      exact ok_some (lp_inl ⟨rfl, (up_0 (x := x_3) (by omega) (by omega))⟩ (up_t (x := x_3) (by omega)))
    · unfold F_X12_lookedAt_41
      exact ok_some (lp_inl ⟨rfl, (up_0 (x := x_3) (by omega) (by omega))⟩ (up_t (x := x_3) (by omega)))
theorem T_X12_nextOf {s : mG} {a1 : Int64} {a2 : Int32} (h_p : 0 ≤ a1.toInt ∧ a1.toInt ≤ 1000000) (hI : IM s) : ok (F_X12_nextOf s a1 a2) (fun (v : Int32) => -1 ≤ v.toInt ∧ v.toInt < (s.1 89 115).toInt) := by
  have hR : RM s s := RM_refl hI
  unfold F_X12_nextOf
  unfold F_X12_nextOf_L11
  have hk_3 := im_115 hR.1
  refine ok_whl (fun v => a1 = v.1 ∧ a2 = v.2.1 ∧ 0 ≤ (v.2.2.2.2).toInt ∧ (-1 ≤ (v.2.2.1).toInt ∧ (v.2.2.1).toInt < (s.1 89 115).toInt)) (fun v => mUp v.2.2.2.2) ⟨rfl, rfl, (show 0 ≤ (ci 0).toInt by rw [((by decide : (ci 0).toInt = 0) : (ci 0).toInt = 0)]; omega), (show -1 ≤ (ci (-1)).toInt ∧ (ci (-1)).toInt < (s.1 89 115).toInt by rw [((by decide : (ci (-1)).toInt = (-1)) : (ci (-1)).toInt = (-1))]; exact ⟨by omega, by omega⟩)⟩ (fun v hv => ?_)
  obtain ⟨x_4, x_5, x_6, x_7, x_8⟩ := v
  obtain ⟨rfl, rfl, rhn_9, rhn_10⟩ := hv
  have hn_9 : 0 ≤ x_8.toInt := rhn_9
  have hn_10 : -1 ≤ (x_6).toInt ∧ (x_6).toInt < (s.1 89 115).toInt := rhn_10
  clear rhn_9 rhn_10
  show ok (F_X12_nextOf_B11 s a1 a2 x_6 x_7 x_8) _
  unfold F_X12_nextOf_B11
  refine ok_ite (fun h_11 => ?_) (fun h_12 => ?_)
  · have hc_13 := r_le (rfl : (s.1 89 115).toInt = _) (rfl : (x_8).toInt = _) h_11
    have hz_14 : -1 ≤ x_6.toInt ∧ x_6.toInt < (s.1 89 115).toInt := ⟨by omega, by omega⟩
    exact ok_some (lp_inr (hz_14))
  · have hc_15 := r_nle (rfl : (s.1 89 115).toInt = _) (rfl : (x_8).toInt = _) h_12
    refine ok_ite (fun h_16 => ?_) (fun h_17 => ?_)
    · unfold F_X12_nextOf_62
      exact ok_some (lp_inl ⟨rfl, rfl, (up_0 (x := x_8) (by omega) (by omega)), (show -1 ≤ (x_6).toInt ∧ (x_6).toInt < (s.1 89 115).toInt from ⟨by omega, by omega⟩)⟩ (up_t (x := x_8) (by omega)))
    · refine ok_b1 (T_X12_worthOf ⟨by omega, by omega⟩ ⟨by omega, by omega⟩ hR.1) (fun v_18 _ => ?_)
      refine ok_ite (fun h_20 => ?_) (fun h_21 => ?_)
      · refine ok_b1 (T_X12_worthOf ⟨by omega, by omega⟩ ⟨by omega, by omega⟩ hR.1) (fun v_22 _ => ?_)
        unfold F_X12_nextOf_62
        exact ok_some (lp_inl ⟨rfl, rfl, (up_0 (x := x_8) (by omega) (by omega)), (show -1 ≤ (x_8).toInt ∧ (x_8).toInt < (s.1 89 115).toInt from ⟨by omega, by omega⟩)⟩ (up_t (x := x_8) (by omega)))
      · unfold F_X12_nextOf_62
        exact ok_some (lp_inl ⟨rfl, rfl, (up_0 (x := x_8) (by omega) (by omega)), (show -1 ≤ (x_6).toInt ∧ (x_6).toInt < (s.1 89 115).toInt from ⟨by omega, by omega⟩)⟩ (up_t (x := x_8) (by omega)))
theorem T_X12_next {a1 : Int32} {s : mG} (hI : IM s) : ok (F_X12_next a1 s) (fun τ => (True) ∧ RM s τ.2) := by
  have hR : RM s s := RM_refl hI
  unfold F_X12_next
  refine ok_b1 (T_X12_isGuest hR.1) (fun v_1 (hv_2 : QG v_1 a1 (s.1 89 112)) => ?_)
  refine ok_ite (fun h_3 => ?_) (fun h_4 => ?_)
  · have hc_5 := r_eq (rfl : (v_1).toInt = _) (by decide : (0 : Int32).toInt = 0) h_3
    exact ok_some ⟨trivial, hR⟩
  · have hc_6 := r_ne (rfl : (v_1).toInt = _) (by decide : (0 : Int32).toInt = 0) h_4
    have hk_7 := im_112 hR.1
    have hk_8 := im_115 hR.1
    have hf_9 := hv_2.2 h_4
    have hk_10 := im_1049 hR.1
    have hk_11 := im_118 hR.1
    refine ok_b2 (ok_rm2 (C := fun (v : Int64) => 0 ≤ v.toInt ∧ v.toInt ≤ 1000000) hR (T_X12_sureOf ⟨by omega, by omega⟩ hR.1)) (fun v_12 s_13 (hq : (0 ≤ v_12.toInt ∧ v_12.toInt ≤ 1000000) ∧ RM s s_13) => ?_)
    obtain ⟨hv_15, hs_14⟩ := hq
    have hk_16 := im_112 hs_14.1
    have hk_17 := rm_k 89 112 hs_14 (by decide)
    refine ok_b1 (T_X12_lookedAt ⟨by omega, by omega⟩ hs_14.1) (fun v_18 _ => ?_)
    have hk_20 := im_115 hs_14.1
    have hk_21 := rm_k 89 115 hs_14 (by decide)
    refine ok_b1 (T_X12_nextOf ⟨by omega, by omega⟩ hs_14.1) (fun v_22 (hv_23 : -1 ≤ v_22.toInt ∧ v_22.toInt < (s_13.1 89 115).toInt) => ?_)
    exact ok_some ⟨trivial, hs_14⟩
theorem T_X12_looksAt {a1 : Int32} {a2 : Int32} {s : mG} (hI : IM s) : ok (F_X12_looksAt a1 a2 s) (fun τ => (True) ∧ RM s τ.2) := by
  have hR : RM s s := RM_refl hI
  unfold F_X12_looksAt
  refine ok_b1 (T_X12_isGuest hR.1) (fun v_1 (hv_2 : QG v_1 a1 (s.1 89 112)) => ?_)
  refine ok_ite (fun h_3 => ?_) (fun h_4 => ?_)
  · have hc_5 := r_eq (rfl : (v_1).toInt = _) (by decide : (0 : Int32).toInt = 0) h_3
    exact ok_some ⟨trivial, hR⟩
  · have hc_6 := r_ne (rfl : (v_1).toInt = _) (by decide : (0 : Int32).toInt = 0) h_4
    have hk_7 := im_112 hR.1
    have hk_8 := im_115 hR.1
    have hf_9 := hv_2.2 h_4
    have hk_10 := im_1049 hR.1
    have hk_11 := im_118 hR.1
    refine ok_b2 (ok_rm2 (C := fun (v : Int64) => 0 ≤ v.toInt ∧ v.toInt ≤ 1000000) hR (T_X12_sureOf ⟨by omega, by omega⟩ hR.1)) (fun v_12 s_13 (hq : (0 ≤ v_12.toInt ∧ v_12.toInt ≤ 1000000) ∧ RM s s_13) => ?_)
    obtain ⟨hv_15, hs_14⟩ := hq
    have hk_16 := im_112 hs_14.1
    have hk_17 := rm_k 89 112 hs_14 (by decide)
    refine ok_b1 (T_X12_lookedAt ⟨by omega, by omega⟩ hs_14.1) (fun v_18 _ => ?_)
    have hk_20 := im_115 hs_14.1
    have hk_21 := rm_k 89 115 hs_14 (by decide)
    refine ok_b1 (T_X12_nextOf ⟨by omega, by omega⟩ hs_14.1) (fun v_22 (hv_23 : -1 ≤ v_22.toInt ∧ v_22.toInt < (s_13.1 89 115).toInt) => ?_)
    unfold F_X12_looksAt_L35
    refine ok_whl (fun v => a2 = v.1 ∧ RM s v.2.2.2.2.2 ∧ 0 ≤ (v.2.2.2.2.1).toInt ∧ (0 ≤ (v.2.1).toInt ∧ (v.2.1).toInt ≤ 1000000) ∧ (-1 ≤ (v.2.2.2.1).toInt ∧ (v.2.2.2.1).toInt < (s.1 89 115).toInt)) (fun v => mUp v.2.2.2.2.1) ⟨rfl, hs_14, (show 0 ≤ (ci 0).toInt by rw [((by decide : (ci 0).toInt = 0) : (ci 0).toInt = 0)]; omega), (show 0 ≤ (v_12).toInt ∧ (v_12).toInt ≤ 1000000 from ⟨by omega, by omega⟩), (show -1 ≤ (v_22).toInt ∧ (v_22).toInt < (s.1 89 115).toInt from ⟨by omega, by omega⟩)⟩ (fun v hv => ?_)
    obtain ⟨x_31, x_32, x_33, x_34, x_35, s_36⟩ := v
    obtain ⟨rfl, rhs_37, rhn_38, rhn_39, rhn_40⟩ := hv
    have hs_37 : RM s s_36 := rhs_37
    have hn_38 : 0 ≤ x_35.toInt := rhn_38
    have hn_39 : 0 ≤ (x_32).toInt ∧ (x_32).toInt ≤ 1000000 := rhn_39
    have hn_40 : -1 ≤ (x_34).toInt ∧ (x_34).toInt < (s.1 89 115).toInt := rhn_40
    clear rhs_37 rhn_38 rhn_39 rhn_40
    show ok (F_X12_looksAt_B35 a2 x_32 x_33 x_34 x_35 s_36) _
    unfold F_X12_looksAt_B35
    refine ok_ite (fun h_41 => ?_) (fun h_42 => ?_)
    · have hc_43 := r_le (rfl : (a2).toInt = _) (rfl : (x_35).toInt = _) h_41
      refine ok_b1r ?_
      unfold F_X12_looksAt_98
      refine ok_ite (fun h_44 => ?_) (fun h_45 => ?_)
      · have hc_46 := r_le (by decide : (0 : Int32).toInt = 0) (rfl : (a2).toInt = _) h_44
        exact ok_some ⟨trivial, hs_37⟩
      · have hc_47 := ge_t h_45
        have hc_48 := r_nle (by decide : (0 : Int32).toInt = 0) (rfl : (a2).toInt = _) h_45
        exact ok_some ⟨trivial, hs_37⟩
    · have hc_49 := ge_t h_42
      have hc_50 := r_nle (rfl : (a2).toInt = _) (rfl : (x_35).toInt = _) h_42
      refine ok_ite (fun h_51 => ?_) (fun h_52 => ?_)
      · have hc_53 := r_eq (rfl : (x_34).toInt = _) (by decide : (ci (-1)).toInt = (-1)) h_51
        refine ok_b1r ?_
        unfold F_X12_looksAt_98
        refine ok_ite (fun h_54 => ?_) (fun h_55 => ?_)
        · have hc_56 := r_le (by decide : (0 : Int32).toInt = 0) (rfl : (a2).toInt = _) h_54
          exact ok_some ⟨trivial, hs_37⟩
        · have hc_57 := ge_t h_55
          have hc_58 := r_nle (by decide : (0 : Int32).toInt = 0) (rfl : (a2).toInt = _) h_55
          exact ok_some ⟨trivial, hs_37⟩
      · have hc_59 := r_ne (rfl : (x_34).toInt = _) (by decide : (ci (-1)).toInt = (-1)) h_52
        have hk_60 := im_115 hs_37.1
        have hk_61 := rm_k 89 115 hs_37 (by decide)
        refine ok_b1 (T_X12_seeing ⟨by omega, by omega⟩ hs_37.1) (fun v_62 _ => ?_)
        refine ok_ite (fun h_64 => ?_) (fun h_65 => ?_)
        · unfold F_X12_looksAt_70
          refine ok_b1 (T_X12_bySign ⟨by omega, by omega⟩ ⟨by omega, by omega⟩ hs_37.1) (fun v_66 (hv_67 : 0 ≤ v_66.toInt ∧ v_66.toInt ≤ 1000000) => ?_)
          extract_lets +onlyGivenNames v_68
          clear_value v_68
          refine ok_b1 (T_X12_nextOf ⟨by omega, by omega⟩ hs_37.1) (fun v_69 (hv_70 : -1 ≤ v_69.toInt ∧ v_69.toInt < (s_36.1 89 115).toInt) => ?_)
          exact ok_some (lp_inl ⟨rfl, hs_37, (up_0 (x := x_35) (by omega) (by omega)), (show 0 ≤ (v_66).toInt ∧ (v_66).toInt ≤ 1000000 from ⟨by omega, by omega⟩), (show -1 ≤ (v_69).toInt ∧ (v_69).toInt < (s.1 89 115).toInt from ⟨by omega, by omega⟩)⟩ (up_t (x := x_35) (by omega)))
        · unfold F_X12_looksAt_70
          refine ok_b1 (T_X12_bySign ⟨by omega, by omega⟩ ⟨by omega, by omega⟩ hs_37.1) (fun v_71 (hv_72 : 0 ≤ v_71.toInt ∧ v_71.toInt ≤ 1000000) => ?_)
          extract_lets +onlyGivenNames v_73
          clear_value v_73
          refine ok_b1 (T_X12_nextOf ⟨by omega, by omega⟩ hs_37.1) (fun v_74 (hv_75 : -1 ≤ v_74.toInt ∧ v_74.toInt < (s_36.1 89 115).toInt) => ?_)
          exact ok_some (lp_inl ⟨rfl, hs_37, (up_0 (x := x_35) (by omega) (by omega)), (show 0 ≤ (v_71).toInt ∧ (v_71).toInt ≤ 1000000 from ⟨by omega, by omega⟩), (show -1 ≤ (v_74).toInt ∧ (v_74).toInt < (s.1 89 115).toInt from ⟨by omega, by omega⟩)⟩ (up_t (x := x_35) (by omega)))
end
