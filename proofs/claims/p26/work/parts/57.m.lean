noncomputable section
theorem T_X12_away {a1 : Int32} {a2 : Int32} {s : mG} (hI : IM s) : ok (F_X12_away a1 a2 s) (fun τ => (True) ∧ RM s τ.2) := by
  have hR : RM s s := RM_refl hI
  unfold F_X12_away
  refine ok_b1 (T_X12_isGuest hR.1) (fun v_1 (hv_2 : QG v_1 a1 (s.1 89 112)) => ?_)
  refine ok_ite (fun h_3 => ?_) (fun h_4 => ?_)
  · have hc_5 := r_eq (rfl : (v_1).toInt = _) (by decide : (0 : Int32).toInt = 0) h_3
    unfold F_X12_away_29
    exact ok_some ⟨trivial, hR⟩
  · have hc_6 := r_ne (rfl : (v_1).toInt = _) (by decide : (0 : Int32).toInt = 0) h_4
    have hk_7 := im_112 hR.1
    have hk_8 := im_115 hR.1
    have hf_9 := hv_2.2 h_4
    refine ok_nn (ix_ok (r_add (by decide : (ci 3).toInt = 3) (rfl : (a1).toInt = _) (by omega) (by omega)) (by omega) (by omega)) ?_
    refine ok_ite (fun h_10 => ?_) (fun h_11 => ?_)
    · unfold F_X12_away_29
      exact ok_some ⟨trivial, hR⟩
    · refine ok_b1 (T_X12_isIn hR.1) (fun v_12 (hv_13 : QI v_12 a2 (ci 0) (c8 48)) => ?_)
      refine ok_ite (fun h_14 => ?_) (fun h_15 => ?_)
      · have hc_16 := r_eq (rfl : (v_12).toInt = _) (by decide : (0 : Int32).toInt = 0) h_14
        unfold F_X12_away_29
        exact ok_some ⟨trivial, hR⟩
      · have hc_17 := r_ne (rfl : (v_12).toInt = _) (by decide : (0 : Int32).toInt = 0) h_15
        have hf_18 := isin_f (a := a2) (by decide : (ci 0).toInt = 0) (by decide : (c8 48).toInt = 48) (hv_13.2 h_15)
        unfold F_X12_away_L38
        refine ok_whl (fun v => a1 = v.1 ∧ a2 = v.2.1 ∧ RM s v.2.2.2.2 ∧ 0 ≤ (v.2.2.2.1).toInt) (fun v => mUp v.2.2.2.1) ⟨rfl, rfl, hR, (show 0 ≤ (ci 0).toInt by rw [((by decide : (ci 0).toInt = 0) : (ci 0).toInt = 0)]; omega)⟩ (fun v hv => ?_)
        obtain ⟨x_23, x_24, x_25, x_26, s_27⟩ := v
        obtain ⟨rfl, rfl, rhs_28, rhn_29⟩ := hv
        have hs_28 : RM s s_27 := rhs_28
        have hn_29 : 0 ≤ x_26.toInt := rhn_29
        clear rhs_28 rhn_29
        show ok (F_X12_away_B38 a1 a2 x_25 x_26 s_27) _
        unfold F_X12_away_B38
        refine ok_ite (fun h_30 => ?_) (fun h_31 => ?_)
        · have hc_32 := r_le (rfl : (a2).toInt = _) (rfl : (x_26).toInt = _) h_30
          exact ok_some (lp_inr (⟨trivial, hs_28⟩))
        · have hc_33 := ge_t h_31
          have hc_34 := r_nle (rfl : (a2).toInt = _) (rfl : (x_26).toInt = _) h_31
          refine ok_nn (ix_ok (r_add (by decide : (c8 27).toInt = 27) (rfl : (a1).toInt = _) (by omega) (by omega)) (by omega) (by omega)) ?_
          refine ok_b1 (T_X12_lesser (by decide : (c16 999).toInt = 999) hs_28.1) (fun v_35 (hv_36 : v_35.toInt ≤ 999) => ?_)
          have hk_37 := im_112 hs_28.1
          have hk_38 := rm_k 89 112 hs_28 (by decide)
          refine ok_b2 (ok_rm2 (C := fun (v : Int32) => 0 ≤ v.toInt ∧ v.toInt ≤ 1000) hs_28 (T_X12_saysIn ⟨by omega, by omega⟩ hs_28.1)) (fun v_39 s_40 (hq : (0 ≤ v_39.toInt ∧ v_39.toInt ≤ 1000) ∧ RM s s_40) => ?_)
          obtain ⟨hv_42, hs_41⟩ := hq
          extract_lets +onlyGivenNames v_43
          clear_value v_43
          exact ok_some (lp_inl ⟨rfl, rfl, hs_41, (up_0 (x := x_26) (by omega) (by omega))⟩ (up_t (x := x_26) (by omega)))
theorem T_X12_of {a1 : Int32} {a2 : Int32} {s : mG} (hI : IM s) : ok (F_X12_of a1 a2 s) (fun τ => (True) ∧ RM s τ.2) := by
  have hR : RM s s := RM_refl hI
  unfold F_X12_of
  refine ok_b1 (T_X12_isGuest hR.1) (fun v_1 (hv_2 : QG v_1 a1 (s.1 89 112)) => ?_)
  refine ok_ite (fun h_3 => ?_) (fun h_4 => ?_)
  · have hc_5 := r_eq (rfl : (v_1).toInt = _) (by decide : (0 : Int32).toInt = 0) h_3
    exact ok_some ⟨trivial, hR⟩
  · have hc_6 := r_ne (rfl : (v_1).toInt = _) (by decide : (0 : Int32).toInt = 0) h_4
    have hk_7 := im_112 hR.1
    have hk_8 := im_115 hR.1
    have hf_9 := hv_2.2 h_4
    refine ok_ite (fun h_10 => ?_) (fun h_11 => ?_)
    · have hc_12 := r_eq (rfl : (a2).toInt = _) (by decide : (ci 0).toInt = 0) h_10
      refine ok_nn (ix_ok (r_add (by decide : (c8 119).toInt = 119) (rfl : (a1).toInt = _) (by omega) (by omega)) (by omega) (by omega)) ?_
      extract_lets +onlyGivenNames v_13
      clear_value v_13
      exact ok_some ⟨trivial, hR⟩
    · have hc_14 := r_ne (rfl : (a2).toInt = _) (by decide : (ci 0).toInt = 0) h_11
      refine ok_ite (fun h_15 => ?_) (fun h_16 => ?_)
      · have hc_17 := r_eq (rfl : (a2).toInt = _) (by decide : (ci 1).toInt = 1) h_15
        refine ok_nn (ix_ok (r_add (by decide : (c16 131).toInt = 131) (rfl : (a1).toInt = _) (by omega) (by omega)) (by omega) (by omega)) ?_
        extract_lets +onlyGivenNames v_18
        clear_value v_18
        exact ok_some ⟨trivial, hR⟩
      · have hc_19 := r_ne (rfl : (a2).toInt = _) (by decide : (ci 1).toInt = 1) h_16
        refine ok_ite (fun h_20 => ?_) (fun h_21 => ?_)
        · have hc_22 := r_eq (rfl : (a2).toInt = _) (by decide : (ci 2).toInt = 2) h_20
          refine ok_nn (ix_ok (r_add (by decide : (ci 3).toInt = 3) (rfl : (a1).toInt = _) (by omega) (by omega)) (by omega) (by omega)) ?_
          extract_lets +onlyGivenNames v_23
          clear_value v_23
          exact ok_some ⟨trivial, hR⟩
        · have hc_24 := r_ne (rfl : (a2).toInt = _) (by decide : (ci 2).toInt = 2) h_21
          refine ok_ite (fun h_25 => ?_) (fun h_26 => ?_)
          · have hc_27 := r_eq (rfl : (a2).toInt = _) (by decide : (ci 3).toInt = 3) h_25
            refine ok_nn (ix_ok (r_add (by decide : (c8 15).toInt = 15) (rfl : (a1).toInt = _) (by omega) (by omega)) (by omega) (by omega)) ?_
            extract_lets +onlyGivenNames v_28
            clear_value v_28
            exact ok_some ⟨trivial, hR⟩
          · have hc_29 := r_ne (rfl : (a2).toInt = _) (by decide : (ci 3).toInt = 3) h_26
            refine ok_ite (fun h_30 => ?_) (fun h_31 => ?_)
            · have hc_32 := r_eq (rfl : (a2).toInt = _) (by decide : (ci 4).toInt = 4) h_30
              refine ok_nn (ix_ok (r_add (by decide : (c8 27).toInt = 27) (rfl : (a1).toInt = _) (by omega) (by omega)) (by omega) (by omega)) ?_
              extract_lets +onlyGivenNames v_33
              clear_value v_33
              exact ok_some ⟨trivial, hR⟩
            · have hc_34 := r_ne (rfl : (a2).toInt = _) (by decide : (ci 4).toInt = 4) h_31
              refine ok_ite (fun h_35 => ?_) (fun h_36 => ?_)
              · have hc_37 := r_eq (rfl : (a2).toInt = _) (by decide : (ci 5).toInt = 5) h_35
                have hk_38 := im_1049 hR.1
                have hk_39 := im_118 hR.1
                refine ok_b2 (ok_rm2 (C := fun (v : Int64) => 0 ≤ v.toInt ∧ v.toInt ≤ 1000000) hR (T_X12_sureOf ⟨by omega, by omega⟩ hR.1)) (fun v_40 s_41 (hq : (0 ≤ v_40.toInt ∧ v_40.toInt ≤ 1000000) ∧ RM s s_41) => ?_)
                obtain ⟨hv_43, hs_42⟩ := hq
                exact ok_some ⟨trivial, hs_42⟩
              · have hc_44 := r_ne (rfl : (a2).toInt = _) (by decide : (ci 5).toInt = 5) h_36
                refine ok_b1 (T_X12_isIn hR.1) (fun v_45 (hv_46 : QI v_45 a2 (c8 6) (c8 11)) => ?_)
                refine ok_ite (fun h_47 => ?_) (fun h_48 => ?_)
                · have hc_49 := r_eq (rfl : (v_45).toInt = _) (by decide : (0 : Int32).toInt = 0) h_47
                  exact ok_some ⟨trivial, hR⟩
                · have hc_50 := r_ne (rfl : (v_45).toInt = _) (by decide : (0 : Int32).toInt = 0) h_48
                  have hf_51 := isin_f (a := a2) (by decide : (c8 6).toInt = 6) (by decide : (c8 11).toInt = 11) (hv_46.2 h_48)
                  refine ok_b2 (ok_rm2 (C := fun (v : Int32) => 0 ≤ v.toInt ∧ v.toInt ≤ 1000) hR (T_X12_saysNow ⟨by omega, by omega⟩ hR.1)) (fun v_52 s_53 (hq : (0 ≤ v_52.toInt ∧ v_52.toInt ≤ 1000) ∧ RM s s_53) => ?_)
                  obtain ⟨hv_55, hs_54⟩ := hq
                  exact ok_some ⟨trivial, hs_54⟩
theorem T_X12_hook {s : mG} {a1 : Int32} (hI : IM s) : ok (F_X12_hook s a1) (fun (v : Int32) => True) := by
  have hR : RM s s := RM_refl hI
  unfold F_X12_hook
  refine ok_b1 (T_X12_isGuest hR.1) (fun v_1 (hv_2 : QG v_1 a1 (s.1 89 112)) => ?_)
  refine ok_ite (fun h_3 => ?_) (fun h_4 => ?_)
  · have hc_5 := r_eq (rfl : (v_1).toInt = _) (by decide : (0 : Int32).toInt = 0) h_3
    exact ok_some trivial
  · have hc_6 := r_ne (rfl : (v_1).toInt = _) (by decide : (0 : Int32).toInt = 0) h_4
    have hk_7 := im_112 hR.1
    have hk_8 := im_115 hR.1
    have hf_9 := hv_2.2 h_4
    refine ok_b1 (T_X12_keyOn hR.1) (fun v_10 _ => ?_)
    exact ok_some trivial
theorem T_X12_sign {s : mG} {a1 : Int32} {a2 : Int32} (hI : IM s) : ok (F_X12_sign s a1 a2) (fun (v : Int32) => True) := by
  have hR : RM s s := RM_refl hI
  unfold F_X12_sign
  generalize (a2 - (ci 2)) = w
  refine ok_b1 (T_X12_isSign hR.1) (fun v_1 (hv_2 : QG v_1 a1 (s.1 89 115)) => ?_)
  refine ok_ite (fun h_3 => ?_) (fun h_4 => ?_)
  · have hc_5 := r_eq (rfl : (v_1).toInt = _) (by decide : (0 : Int32).toInt = 0) h_3
    exact ok_some trivial
  · have hc_6 := r_ne (rfl : (v_1).toInt = _) (by decide : (0 : Int32).toInt = 0) h_4
    have hk_7 := im_112 hR.1
    have hk_8 := im_115 hR.1
    have hf_9 := hv_2.2 h_4
    refine ok_b1 (T_X12_isIn hR.1) (fun v_10 (hv_11 : QI v_10 a2 (ci 0) (ci 1)) => ?_)
    refine ok_ite (fun h_12 => ?_) (fun h_13 => ?_)
    · have hc_14 := r_eq (rfl : (v_10).toInt = _) (by decide : (0 : Int32).toInt = 0) h_12
      refine ok_b1 (T_X12_isGuest hR.1) (fun v_15 (hv_16 : QG v_15 w (s.1 89 112)) => ?_)
      refine ok_ite (fun h_17 => ?_) (fun h_18 => ?_)
      · have hc_19 := r_eq (rfl : (v_15).toInt = _) (by decide : (0 : Int32).toInt = 0) h_17
        exact ok_some trivial
      · have hc_20 := r_ne (rfl : (v_15).toInt = _) (by decide : (0 : Int32).toInt = 0) h_18
        have hf_21 := hv_16.2 h_18
        refine ok_nn (ix_ok (r_add (r_add (by decide : (c8 39).toInt = 39) (r_mul (by decide : (c8 6).toInt = 6) (rfl : w.toInt = _) (by omega) (by omega)) (by omega) (by omega)) (rfl : (a1).toInt = _) (by omega) (by omega)) (by omega) (by omega)) ?_
        exact ok_some trivial
    · have hc_22 := r_ne (rfl : (v_10).toInt = _) (by decide : (0 : Int32).toInt = 0) h_13
      have hf_23 := isin_f (a := a2) (by decide : (ci 0).toInt = 0) (by decide : (ci 1).toInt = 1) (hv_11.2 h_13)
      refine ok_nn (ix_ok (r_add (r_add (by decide : (c16 143).toInt = 143) (r_mul (by decide : (ci 2).toInt = 2) (rfl : (a1).toInt = _) (by omega) (by omega)) (by omega) (by omega)) (rfl : (a2).toInt = _) (by omega) (by omega)) (by omega) (by omega)) ?_
      exact ok_some trivial
theorem T_X12_book {s : mG} {a1 : Int32} {a2 : Int32} (hI : IM s) : ok (F_X12_book s a1 a2) (fun (v : Int32) => True) := by
  have hR : RM s s := RM_refl hI
  unfold F_X12_book
  have hk_1 := im_2 hR.1
  refine ok_b1 (T_X12_isIn hR.1) (fun v_2 (hv_3 : QI v_2 a1 (ci 0) ((s.1 89 2) - (ci 1))) => ?_)
  refine ok_ite (fun h_4 => ?_) (fun h_5 => ?_)
  · have hc_6 := r_eq (rfl : (v_2).toInt = _) (by decide : (0 : Int32).toInt = 0) h_4
    unfold F_X12_book_42
    exact ok_some trivial
  · have hc_7 := r_ne (rfl : (v_2).toInt = _) (by decide : (0 : Int32).toInt = 0) h_5
    have hf_8 := isin_f (a := a1) (by decide : (ci 0).toInt = 0) (r_sub (rfl : (s.1 89 2).toInt = _) (by decide : (ci 1).toInt = 1) (by omega) (by omega)) (hv_3.2 h_5)
    refine ok_b1 (T_X12_isIn hR.1) (fun v_9 (hv_10 : QI v_9 a2 (ci 0) (ci 4)) => ?_)
    refine ok_ite (fun h_11 => ?_) (fun h_12 => ?_)
    · have hc_13 := r_eq (rfl : (v_9).toInt = _) (by decide : (0 : Int32).toInt = 0) h_11
      unfold F_X12_book_42
      exact ok_some trivial
    · have hc_14 := r_ne (rfl : (v_9).toInt = _) (by decide : (0 : Int32).toInt = 0) h_12
      have hf_15 := isin_f (a := a2) (by decide : (ci 0).toInt = 0) (by decide : (ci 4).toInt = 4) (hv_10.2 h_12)
      refine ok_nn (ix_ok (r_add (r_add (by decide : (c16 235).toInt = 235) (r_mul (by decide : (ci 5).toInt = 5) (rfl : (a1).toInt = _) (by omega) (by omega)) (by omega) (by omega)) (rfl : (a2).toInt = _) (by omega) (by omega)) (by omega) (by omega)) ?_
      exact ok_some trivial
theorem T_X12_outs {s : mG} (hI : IM s) : ok (F_X12_outs s) (fun (v : Int32) => True) := by
  have hR : RM s s := RM_refl hI
  unfold F_X12_outs
  unfold F_X12_outs_L4
  refine ok_whl (fun v => 0 ≤ (v.2).toInt) (fun v => mUp v.2) (show 0 ≤ (ci 0).toInt by rw [((by decide : (ci 0).toInt = 0) : (ci 0).toInt = 0)]; omega) (fun v hv => ?_)
  obtain ⟨x_2, x_3⟩ := v
  have hn_4 : 0 ≤ x_3.toInt := hv
  show ok (F_X12_outs_B4 s x_2 x_3) _
  unfold F_X12_outs_B4
  refine ok_ite (fun h_5 => ?_) (fun h_6 => ?_)
  · have hk_7 := im_112 hR.1
    have hc_8 := r_le (rfl : (s.1 89 112).toInt = _) (rfl : (x_3).toInt = _) h_5
    exact ok_some (lp_inr (trivial))
  · have hk_9 := im_112 hR.1
    have hc_10 := r_nle (rfl : (s.1 89 112).toInt = _) (rfl : (x_3).toInt = _) h_6
    refine ok_nn (ix_ok (r_add (by decide : (ci 3).toInt = 3) (rfl : (x_3).toInt = _) (by omega) (by omega)) (by omega) (by omega)) ?_
    extract_lets +onlyGivenNames v_11
    clear_value v_11
    exact ok_some (lp_inl (up_0 (x := x_3) (by omega) (by omega)) (up_t (x := x_3) (by omega)))
theorem T_X12_hooksWithKeys {s : mG} (hI : IM s) : ok (F_X12_hooksWithKeys s) (fun (v : Int32) => True) := by
  have hR : RM s s := RM_refl hI
  unfold F_X12_hooksWithKeys
  unfold F_X12_hooksWithKeys_L4
  refine ok_whl (fun v => 0 ≤ (v.2).toInt) (fun v => mUp v.2) (show 0 ≤ (ci 0).toInt by rw [((by decide : (ci 0).toInt = 0) : (ci 0).toInt = 0)]; omega) (fun v hv => ?_)
  obtain ⟨x_1, x_2⟩ := v
  have hn_3 : 0 ≤ x_2.toInt := hv
  show ok (F_X12_hooksWithKeys_B4 s x_1 x_2) _
  unfold F_X12_hooksWithKeys_B4
  refine ok_ite (fun h_4 => ?_) (fun h_5 => ?_)
  · have hk_6 := im_112 hR.1
    have hc_7 := r_le (rfl : (s.1 89 112).toInt = _) (rfl : (x_2).toInt = _) h_4
    exact ok_some (lp_inr (trivial))
  · have hk_8 := im_112 hR.1
    have hc_9 := r_nle (rfl : (s.1 89 112).toInt = _) (rfl : (x_2).toInt = _) h_5
    refine ok_nn (ix_ok (r_add (by decide : (c8 15).toInt = 15) (rfl : (x_2).toInt = _) (by omega) (by omega)) (by omega) (by omega)) ?_
    refine ok_ite (fun h_10 => ?_) (fun h_11 => ?_)
    · unfold F_X12_hooksWithKeys_44
      exact ok_some (lp_inl (up_0 (x := x_2) (by omega) (by omega)) (up_t (x := x_2) (by omega)))
    · refine ok_nn (ix_ok (r_add (by decide : (c8 15).toInt = 15) (rfl : (x_2).toInt = _) (by omega) (by omega)) (by omega) (by omega)) ?_
      unfold F_X12_hooksWithKeys_44
      exact ok_some (lp_inl (up_0 (x := x_2) (by omega) (by omega)) (up_t (x := x_2) (by omega)))
end
