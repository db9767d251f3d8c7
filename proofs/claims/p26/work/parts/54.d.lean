noncomputable section
theorem T_X7_readLaw {s : mG} (hI : IC s) : ok (F_X7_readLaw s) (fun τ => PB τ.1 ∧ RC true s τ.2) := by
  have hR : RC true s s := RC_refl hI
  unfold F_X7_readLaw
  refine ok_b1 (T_X11_isWithin hR.1) (fun v_1 (hv_2 : PB v_1) => ?_)
  refine ok_ite (fun h_3 => ?_) (fun h_4 => ?_)
  · refine ok_b2 (ok_tr3 hR (T_X7_refuse hR.1)) (fun v_5 s_6 (hs_7 : PB v_5 ∧ RC true s s_6) => ?_)
    refine ok_pp hs_7.1 ?_
    exact ok_some ⟨hs_7.1, hs_7.2⟩
  · refine ok_b2 (ok_tr2 hR (T_X10_add isT_56 hR.1)) (fun v_8 s_9 (hs_10 : RC true s s_9) => ?_)
    refine ok_ite (fun h_11 => ?_) (fun h_12 => ?_)
    · refine ok_b2 (ok_tr3 hs_10 (T_X7_refuse hs_10.1)) (fun v_13 s_14 (hs_15 : PB v_13 ∧ RC true s s_14) => ?_)
      refine ok_pp hs_15.1 ?_
      exact ok_some ⟨hs_15.1, hs_15.2⟩
    · refine ok_b1 (ok_tr hs_10 (T_X10_put isT_56 hs_10.1)) (fun s_16 (hs_17 : RC true s s_16) => ?_)
      refine ok_b1 (ok_tr hs_17 (T_X10_put isT_56 hs_17.1)) (fun s_18 (hs_19 : RC true s s_18) => ?_)
      refine ok_b1 (ok_tr hs_19 (T_X7_stepOn hs_19.1)) (fun s_20 (hs_21 : RC true s s_20) => ?_)
      refine ok_b2 (ok_tr3 hs_21 (T_X7_readSum hs_21.1)) (fun v_22 s_23 (hs_24 : PB v_22 ∧ RC true s s_23) => ?_)
      refine ok_ite (fun h_25 => ?_) (fun h_26 => ?_)
      · exact ok_some ⟨pb0, hs_24.2⟩
      · refine ok_b1 (ok_tr hs_24.2 (T_X10_put isT_56 hs_24.2.1)) (fun s_27 (hs_28 : RC true s s_27) => ?_)
        refine ok_ite (fun h_29 => ?_) (fun h_30 => ?_)
        · refine ok_b1 (ok_tr hs_28 (T_X7_stepOn hs_28.1)) (fun s_31 (hs_32 : RC true s s_31) => ?_)
          refine ok_b2 (ok_tr3 hs_32 (T_X7_readCondition hs_32.1)) (fun v_33 s_34 (hs_35 : PB v_33 ∧ RC true s s_34) => ?_)
          refine ok_ite (fun h_36 => ?_) (fun h_37 => ?_)
          · exact ok_some ⟨pb0, hs_35.2⟩
          · unfold F_X7_readLaw_126
            refine ok_b1 (ok_tr hs_35.2 (T_X10_put isT_56 hs_35.2.1)) (fun s_38 (hs_39 : RC true s s_38) => ?_)
            refine ok_b2 (ok_tr3 hs_39 (T_X7_pass hs_39.1)) (fun v_40 s_41 (hs_42 : PB v_40 ∧ RC true s s_41) => ?_)
            refine ok_pp hs_42.1 ?_
            exact ok_some ⟨hs_42.1, hs_42.2⟩
        · unfold F_X7_readLaw_126
          refine ok_b1 (ok_tr hs_28 (T_X10_put isT_56 hs_28.1)) (fun s_43 (hs_44 : RC true s s_43) => ?_)
          refine ok_b2 (ok_tr3 hs_44 (T_X7_pass hs_44.1)) (fun v_45 s_46 (hs_47 : PB v_45 ∧ RC true s s_46) => ?_)
          refine ok_pp hs_47.1 ?_
          exact ok_some ⟨hs_47.1, hs_47.2⟩
theorem T_X7_readText {a1 : Int32} {s : mG} (hI : IC s) : ok (F_X7_readText a1 s) (fun τ => PB τ.1 ∧ RC true s τ.2) := by
  have hR : RC true s s := RC_refl hI
  unfold F_X7_readText
  extract_lets +onlyGivenNames s_1
  have hs_2 : RC true s s_1 := (RC_mu hR (by decide))
  clear_value s_1
  extract_lets +onlyGivenNames s_3
  have hs_4 : RC true s s_3 := (RC_mu hs_2 (by decide))
  clear_value s_3
  refine ok_ite (fun h_5 => ?_) (fun h_6 => ?_)
  · unfold F_X7_readText_19
    exact ok_some ⟨pb0, hs_4⟩
  · refine ok_ite (fun h_7 => ?_) (fun h_8 => ?_)
    · refine ok_b1 (ok_tr hs_4 (T_X7_splitTape hs_4.1)) (fun s_9 (hs_10 : RC true s s_9) => ?_)
      refine ok_b1 (ok_tr hs_10 (T_X10_clear isT_56 hs_10.1)) (fun s_11 (hs_12 : RC true s s_11) => ?_)
      refine ok_b1 (ok_tr hs_12 (T_X10_clear isT_58 hs_12.1)) (fun s_13 (hs_14 : RC true s s_13) => ?_)
      refine ok_b1 (ok_tr hs_14 (T_X10_clear isT_60 hs_14.1)) (fun s_15 (hs_16 : RC true s s_15) => ?_)
      refine ok_b1 (ok_tr hs_16 (T_X10_clear isT_62 hs_16.1)) (fun s_17 (hs_18 : RC true s s_17) => ?_)
      extract_lets +onlyGivenNames s_19
      have hs_20 : RC true s s_19 := (RC_mu hs_18 (by decide))
      clear_value s_19
      refine ok_b1 (ok_tr hs_20 (T_X7_stepOn hs_20.1)) (fun s_21 (hs_22 : RC true s s_21) => ?_)
      unfold F_X7_readText_L64
      refine ok_whl (fun v => a1 = v.1 ∧ RC true s v.2.2 ∧ ¬ v.2.1 < 0) (fun v => mUp v.2.1) ⟨rfl, hs_22, nn0⟩ (fun v hv => ?_)
      obtain ⟨x_29, x_30, s_31⟩ := v
      obtain ⟨rfl, rhs_32, rhn_33⟩ := hv
      have hs_32 : RC true s s_31 := rhs_32
      have hn_33 : ¬ x_30 < 0 := rhn_33
      show ok (F_X7_readText_B64 a1 x_30 s_31) _
      unfold F_X7_readText_B64
      refine ok_ite (fun h_34 => ?_) (fun h_35 => ?_)
      · refine ok_b1r ?_
        unfold F_X7_readText_119
        exact ok_some ⟨pb1, hs_32⟩
      · refine ok_ite (fun h_36 => ?_) (fun h_37 => ?_)
        · refine ok_b1r ?_
          unfold F_X7_readText_119
          exact ok_some ⟨pb1, hs_32⟩
        · refine ok_ite (fun h_38 => ?_) (fun h_39 => ?_)
          · refine ok_b2 (ok_tr3 hs_32 (T_X7_readLaw hs_32.1)) (fun v_40 s_41 (hs_42 : PB v_40 ∧ RC true s s_41) => ?_)
            unfold F_X7_readText_106
            refine ok_ite (fun h_43 => ?_) (fun h_44 => ?_)
            · exact ok_some (lp_inr (⟨pb0, hs_42.2⟩))
            · exact ok_some (lp_inl ⟨rfl, hs_42.2, (up_nn hn_33 (ge_t h_35))⟩ (up_t (ge_t h_35)))
          · refine ok_ite (fun h_45 => ?_) (fun h_46 => ?_)
            · refine ok_b2 (ok_tr3 hs_32 (T_X7_readSign hs_32.1)) (fun v_47 s_48 (hs_49 : PB v_47 ∧ RC true s s_48) => ?_)
              unfold F_X7_readText_106
              refine ok_ite (fun h_50 => ?_) (fun h_51 => ?_)
              · exact ok_some (lp_inr (⟨pb0, hs_49.2⟩))
              · exact ok_some (lp_inl ⟨rfl, hs_49.2, (up_nn hn_33 (ge_t h_35))⟩ (up_t (ge_t h_35)))
            · refine ok_b2 (ok_tr3 hs_32 (T_X7_readShift hs_32.1)) (fun v_52 s_53 (hs_54 : PB v_52 ∧ RC true s s_53) => ?_)
              unfold F_X7_readText_106
              refine ok_ite (fun h_55 => ?_) (fun h_56 => ?_)
              · exact ok_some (lp_inr (⟨pb0, hs_54.2⟩))
              · exact ok_some (lp_inl ⟨rfl, hs_54.2, (up_nn hn_33 (ge_t h_35))⟩ (up_t (ge_t h_35)))
    · unfold F_X7_readText_19
      exact ok_some ⟨pb0, hs_4⟩
theorem T_X8_hangsWrong {s : mG} {a1 : Int32} (hI : IC s) : ok (F_X8_hangsWrong s a1) PB := by
  have hR : RC true s s := RC_refl hI
  unfold F_X8_hangsWrong
  refine ok_b1 (T_X10_at isT_2 hR.1) (fun v_1 _ => ?_)
  refine ok_ite (fun h_3 => ?_) (fun h_4 => ?_)
  · unfold F_X8_hangsWrong_27
    exact ok_some pb0
  · refine ok_ite (fun h_5 => ?_) (fun h_6 => ?_)
    · unfold F_X8_hangsWrong_27
      exact ok_some pb0
    · exact ok_some pb1
theorem T_X8_wrongHooks {s : mG} (hI : IC s) : ok (F_X8_wrongHooks s) PT := by
  have hR : RC true s s := RC_refl hI
  unfold F_X8_wrongHooks
  unfold F_X8_wrongHooks_L4
  refine ok_whl (fun v => ¬ v.2 < 0) (fun v => mUp v.2) nn0 (fun v hv => ?_)
  obtain ⟨x_3, x_4⟩ := v
  have hn_5 : ¬ x_4 < 0 := hv
  show ok (F_X8_wrongHooks_B4 s x_3 x_4) _
  unfold F_X8_wrongHooks_B4
  refine ok_ite (fun h_6 => ?_) (fun h_7 => ?_)
  · exact ok_some (lp_inr (trivial))
  · refine ok_b1 (T_X8_hangsWrong hR.1) (fun v_8 (hv_9 : PB v_8) => ?_)
    refine ok_ite (fun h_10 => ?_) (fun h_11 => ?_)
    · unfold F_X8_wrongHooks_45
      exact ok_some (lp_inl (up_nn hn_5 (ge_t h_7)) (up_t (ge_t h_7)))
    · refine ok_b1 (T_X10_at isT_2 hR.1) (fun v_12 _ => ?_)
      unfold F_X8_wrongHooks_45
      exact ok_some (lp_inl (up_nn hn_5 (ge_t h_7)) (up_t (ge_t h_7)))
theorem T_X8_ringOf {s : mG} {a1 : Int32} (hI : IC s) : ok (F_X8_ringOf s a1) PT := by
  have hR : RC true s s := RC_refl hI
  unfold F_X8_ringOf
  unfold F_X8_ringOf_L7
  refine ok_whl (fun v => a1 = v.1 ∧ ¬ v.2.2.2 < 0) (fun v => mUp v.2.2.2) ⟨rfl, nn0⟩ (fun v hv => ?_)
  obtain ⟨x_4, x_5, x_6, x_7⟩ := v
  obtain ⟨rfl, rhn_8⟩ := hv
  have hn_8 : ¬ x_7 < 0 := rhn_8
  show ok (F_X8_ringOf_B7 s a1 x_5 x_6 x_7) _
  unfold F_X8_ringOf_B7
  refine ok_ite (fun h_9 => ?_) (fun h_10 => ?_)
  · exact ok_some (lp_inr (trivial))
  · refine ok_b1 (T_X8_hangsWrong hR.1) (fun v_11 (hv_12 : PB v_11) => ?_)
    refine ok_ite (fun h_13 => ?_) (fun h_14 => ?_)
    · exact ok_some (lp_inr (trivial))
    · extract_lets +onlyGivenNames v_15
      clear_value v_15
      refine ok_b1 (T_X10_at isT_2 hR.1) (fun v_16 _ => ?_)
      refine ok_ite (fun h_18 => ?_) (fun h_19 => ?_)
      · exact ok_some (lp_inr (trivial))
      · exact ok_some (lp_inl ⟨rfl, (up_nn hn_8 (ge_t h_10))⟩ (up_t (ge_t h_10)))
theorem T_X8_ringCount {s : mG} (hI : IC s) : ok (F_X8_ringCount s) PT := by
  have hR : RC true s s := RC_refl hI
  unfold F_X8_ringCount
  unfold F_X8_ringCount_L4
  refine ok_whl (fun v => ¬ v.2 < 0) (fun v => mUp v.2) nn0 (fun v hv => ?_)
  obtain ⟨x_2, x_3⟩ := v
  have hn_4 : ¬ x_3 < 0 := hv
  show ok (F_X8_ringCount_B4 s x_2 x_3) _
  unfold F_X8_ringCount_B4
  refine ok_ite (fun h_5 => ?_) (fun h_6 => ?_)
  · exact ok_some (lp_inr (trivial))
  · refine ok_b1 (T_X8_ringOf hR.1) (fun v_7 _ => ?_)
    refine ok_ite (fun h_9 => ?_) (fun h_10 => ?_)
    · unfold F_X8_ringCount_39
      refine ok_ite (fun h_11 => ?_) (fun h_12 => ?_)
      · unfold F_X8_ringCount_55
        unfold F_X8_ringCount_56
        exact ok_some (lp_inl (up_nn hn_4 (ge_t h_6)) (up_t (ge_t h_6)))
      · refine ok_ite (fun h_13 => ?_) (fun h_14 => ?_)
        · unfold F_X8_ringCount_55
          unfold F_X8_ringCount_56
          exact ok_some (lp_inl (up_nn hn_4 (ge_t h_6)) (up_t (ge_t h_6)))
        · unfold F_X8_ringCount_56
          exact ok_some (lp_inl (up_nn hn_4 (ge_t h_6)) (up_t (ge_t h_6)))
    · unfold F_X8_ringCount_39
      refine ok_ite (fun h_15 => ?_) (fun h_16 => ?_)
      · unfold F_X8_ringCount_55
        unfold F_X8_ringCount_56
        exact ok_some (lp_inl (up_nn hn_4 (ge_t h_6)) (up_t (ge_t h_6)))
      · refine ok_ite (fun h_17 => ?_) (fun h_18 => ?_)
        · unfold F_X8_ringCount_55
          unfold F_X8_ringCount_56
          exact ok_some (lp_inl (up_nn hn_4 (ge_t h_6)) (up_t (ge_t h_6)))
        · unfold F_X8_ringCount_56
          exact ok_some (lp_inl (up_nn hn_4 (ge_t h_6)) (up_t (ge_t h_6)))
theorem T_X8_longestOutWithKey {s : mG} (hI : IC s) : ok (F_X8_longestOutWithKey s) PT := by
  have hR : RC true s s := RC_refl hI
  unfold F_X8_longestOutWithKey
  unfold F_X8_longestOutWithKey_L6
  refine ok_whl (fun v => ¬ v.2.2 < 0) (fun v => mUp v.2.2) nn0 (fun v hv => ?_)
  obtain ⟨x_9, x_10, x_11⟩ := v
  have hn_12 : ¬ x_11 < 0 := hv
  show ok (F_X8_longestOutWithKey_B6 s x_9 x_10 x_11) _
  unfold F_X8_longestOutWithKey_B6
  refine ok_ite (fun h_13 => ?_) (fun h_14 => ?_)
  · exact ok_some (lp_inr (trivial))
  · refine ok_b1 (T_X2_isOut isH_1 hR.1) (fun v_15 (hv_16 : PB v_15) => ?_)
    refine ok_ite (fun h_17 => ?_) (fun h_18 => ?_)
    · unfold F_X8_longestOutWithKey_51
      unfold F_X8_longestOutWithKey_52
      refine ok_ite (fun h_19 => ?_) (fun h_20 => ?_)
      · unfold F_X8_longestOutWithKey_90
        exact ok_some (lp_inl (up_nn hn_12 (ge_t h_14)) (up_t (ge_t h_14)))
      · refine ok_b1 (T_X10_at isT_2 hR.1) (fun v_21 _ => ?_)
        refine ok_ite (fun h_23 => ?_) (fun h_24 => ?_)
        · unfold F_X8_longestOutWithKey_90
          exact ok_some (lp_inl (up_nn hn_12 (ge_t h_14)) (up_t (ge_t h_14)))
        · refine ok_b1 (T_X10_at isT_2 hR.1) (fun v_25 _ => ?_)
          unfold F_X8_longestOutWithKey_90
          exact ok_some (lp_inl (up_nn hn_12 (ge_t h_14)) (up_t (ge_t h_14)))
    · refine ok_b1 (T_X10_at isT_2 hR.1) (fun v_27 _ => ?_)
      refine ok_ite (fun h_29 => ?_) (fun h_30 => ?_)
      · unfold F_X8_longestOutWithKey_52
        refine ok_ite (fun h_31 => ?_) (fun h_32 => ?_)
        · unfold F_X8_longestOutWithKey_90
          exact ok_some (lp_inl (up_nn hn_12 (ge_t h_14)) (up_t (ge_t h_14)))
        · refine ok_b1 (T_X10_at isT_2 hR.1) (fun v_33 _ => ?_)
          refine ok_ite (fun h_35 => ?_) (fun h_36 => ?_)
          · unfold F_X8_longestOutWithKey_90
            exact ok_some (lp_inl (up_nn hn_12 (ge_t h_14)) (up_t (ge_t h_14)))
          · refine ok_b1 (T_X10_at isT_2 hR.1) (fun v_37 _ => ?_)
            unfold F_X8_longestOutWithKey_90
            exact ok_some (lp_inl (up_nn hn_12 (ge_t h_14)) (up_t (ge_t h_14)))
      · unfold F_X8_longestOutWithKey_51
        unfold F_X8_longestOutWithKey_52
        refine ok_ite (fun h_39 => ?_) (fun h_40 => ?_)
        · unfold F_X8_longestOutWithKey_90
          exact ok_some (lp_inl (up_nn hn_12 (ge_t h_14)) (up_t (ge_t h_14)))
        · refine ok_b1 (T_X10_at isT_2 hR.1) (fun v_41 _ => ?_)
          refine ok_ite (fun h_43 => ?_) (fun h_44 => ?_)
          · unfold F_X8_longestOutWithKey_90
            exact ok_some (lp_inl (up_nn hn_12 (ge_t h_14)) (up_t (ge_t h_14)))
          · refine ok_b1 (T_X10_at isT_2 hR.1) (fun v_45 _ => ?_)
            unfold F_X8_longestOutWithKey_90
            exact ok_some (lp_inl (up_nn hn_12 (ge_t h_14)) (up_t (ge_t h_14)))
theorem T_X8_linesOf {s : mG} {a1 : Int32} {a2 : Int32} (hI : IC s) : ok (F_X8_linesOf s a1 a2) PT := by
  have hR : RC true s s := RC_refl hI
  unfold F_X8_linesOf
  unfold F_X8_linesOf_L5
  refine ok_whl (fun v => a1 = v.1 ∧ a2 = v.2.1 ∧ ¬ v.2.2.2 < 0) (fun v => mUp v.2.2.2) ⟨rfl, rfl, nn0⟩ (fun v hv => ?_)
  obtain ⟨x_6, x_7, x_8, x_9⟩ := v
  obtain ⟨rfl, rfl, rhn_10⟩ := hv
  have hn_10 : ¬ x_9 < 0 := rhn_10
  show ok (F_X8_linesOf_B5 s a1 a2 x_8 x_9) _
  unfold F_X8_linesOf_B5
  refine ok_ite (fun h_11 => ?_) (fun h_12 => ?_)
  · exact ok_some (lp_inr (trivial))
  · refine ok_b1 (T_X10_at isT_4 hR.1) (fun v_13 _ => ?_)
    refine ok_ite (fun h_15 => ?_) (fun h_16 => ?_)
    · refine ok_b1 (T_X10_at isT_4 hR.1) (fun v_17 _ => ?_)
      refine ok_ite (fun h_19 => ?_) (fun h_20 => ?_)
      · unfold F_X8_linesOf_58
        unfold F_X8_linesOf_59
        refine ok_b1 (T_X10_at isT_4 hR.1) (fun v_21 _ => ?_)
        refine ok_ite (fun h_23 => ?_) (fun h_24 => ?_)
        · unfold F_X8_linesOf_83
          refine ok_ite (fun h_25 => ?_) (fun h_26 => ?_)
          · unfold F_X8_linesOf_101
            unfold F_X8_linesOf_102
            exact ok_some (lp_inl ⟨rfl, rfl, (up_nn hn_10 (ge_t h_12))⟩ (up_t (ge_t h_12)))
          · refine ok_ite (fun h_27 => ?_) (fun h_28 => ?_)
            · unfold F_X8_linesOf_102
              exact ok_some (lp_inl ⟨rfl, rfl, (up_nn hn_10 (ge_t h_12))⟩ (up_t (ge_t h_12)))
            · unfold F_X8_linesOf_101
              unfold F_X8_linesOf_102
              exact ok_some (lp_inl ⟨rfl, rfl, (up_nn hn_10 (ge_t h_12))⟩ (up_t (ge_t h_12)))
        · unfold F_X8_linesOf_83
          refine ok_ite (fun h_29 => ?_) (fun h_30 => ?_)
          · unfold F_X8_linesOf_101
            unfold F_X8_linesOf_102
            exact ok_some (lp_inl ⟨rfl, rfl, (up_nn hn_10 (ge_t h_12))⟩ (up_t (ge_t h_12)))
          · refine ok_ite (fun h_31 => ?_) (fun h_32 => ?_)
            · unfold F_X8_linesOf_102
              exact ok_some (lp_inl ⟨rfl, rfl, (up_nn hn_10 (ge_t h_12))⟩ (up_t (ge_t h_12)))
            · unfold F_X8_linesOf_101
              unfold F_X8_linesOf_102
              exact ok_some (lp_inl ⟨rfl, rfl, (up_nn hn_10 (ge_t h_12))⟩ (up_t (ge_t h_12)))
      · unfold F_X8_linesOf_59
        refine ok_b1 (T_X10_at isT_4 hR.1) (fun v_33 _ => ?_)
        refine ok_ite (fun h_35 => ?_) (fun h_36 => ?_)
        · unfold F_X8_linesOf_83
          refine ok_ite (fun h_37 => ?_) (fun h_38 => ?_)
          · unfold F_X8_linesOf_101
            unfold F_X8_linesOf_102
            exact ok_some (lp_inl ⟨rfl, rfl, (up_nn hn_10 (ge_t h_12))⟩ (up_t (ge_t h_12)))
          · refine ok_ite (fun h_39 => ?_) (fun h_40 => ?_)
            · unfold F_X8_linesOf_102
              exact ok_some (lp_inl ⟨rfl, rfl, (up_nn hn_10 (ge_t h_12))⟩ (up_t (ge_t h_12)))
            · unfold F_X8_linesOf_101
              unfold F_X8_linesOf_102
              exact ok_some (lp_inl ⟨rfl, rfl, (up_nn hn_10 (ge_t h_12))⟩ (up_t (ge_t h_12)))
        · unfold F_X8_linesOf_83
          refine ok_ite (fun h_41 => ?_) (fun h_42 => ?_)
          · unfold F_X8_linesOf_101
            unfold F_X8_linesOf_102
            exact ok_some (lp_inl ⟨rfl, rfl, (up_nn hn_10 (ge_t h_12))⟩ (up_t (ge_t h_12)))
          · refine ok_ite (fun h_43 => ?_) (fun h_44 => ?_)
            · unfold F_X8_linesOf_102
              exact ok_some (lp_inl ⟨rfl, rfl, (up_nn hn_10 (ge_t h_12))⟩ (up_t (ge_t h_12)))
            · unfold F_X8_linesOf_101
              unfold F_X8_linesOf_102
              exact ok_some (lp_inl ⟨rfl, rfl, (up_nn hn_10 (ge_t h_12))⟩ (up_t (ge_t h_12)))
    · unfold F_X8_linesOf_58
      unfold F_X8_linesOf_59
      refine ok_b1 (T_X10_at isT_4 hR.1) (fun v_45 _ => ?_)
      refine ok_ite (fun h_47 => ?_) (fun h_48 => ?_)
      · unfold F_X8_linesOf_83
        refine ok_ite (fun h_49 => ?_) (fun h_50 => ?_)
        · unfold F_X8_linesOf_101
          unfold F_X8_linesOf_102
          exact ok_some (lp_inl ⟨rfl, rfl, (up_nn hn_10 (ge_t h_12))⟩ (up_t (ge_t h_12)))
        · refine ok_ite (fun h_51 => ?_) (fun h_52 => ?_)
          · unfold F_X8_linesOf_102
            exact ok_some (lp_inl ⟨rfl, rfl, (up_nn hn_10 (ge_t h_12))⟩ (up_t (ge_t h_12)))
          · unfold F_X8_linesOf_101
            unfold F_X8_linesOf_102
            exact ok_some (lp_inl ⟨rfl, rfl, (up_nn hn_10 (ge_t h_12))⟩ (up_t (ge_t h_12)))
      · unfold F_X8_linesOf_83
        refine ok_ite (fun h_53 => ?_) (fun h_54 => ?_)
        · unfold F_X8_linesOf_101
          unfold F_X8_linesOf_102
          exact ok_some (lp_inl ⟨rfl, rfl, (up_nn hn_10 (ge_t h_12))⟩ (up_t (ge_t h_12)))
        · refine ok_ite (fun h_55 => ?_) (fun h_56 => ?_)
          · unfold F_X8_linesOf_102
            exact ok_some (lp_inl ⟨rfl, rfl, (up_nn hn_10 (ge_t h_12))⟩ (up_t (ge_t h_12)))
          · unfold F_X8_linesOf_101
            unfold F_X8_linesOf_102
            exact ok_some (lp_inl ⟨rfl, rfl, (up_nn hn_10 (ge_t h_12))⟩ (up_t (ge_t h_12)))
theorem T_X8_linesAt {s : mG} {a1 : Int32} {a2 : Int32} (hI : IC s) : ok (F_X8_linesAt s a1 a2) PT := by
  have hR : RC true s s := RC_refl hI
  unfold F_X8_linesAt
  unfold F_X8_linesAt_L5
  refine ok_whl (fun v => a1 = v.1 ∧ a2 = v.2.1 ∧ ¬ v.2.2.2 < 0) (fun v => mUp v.2.2.2) ⟨rfl, rfl, nn0⟩ (fun v hv => ?_)
  obtain ⟨x_3, x_4, x_5, x_6⟩ := v
  obtain ⟨rfl, rfl, rhn_7⟩ := hv
  have hn_7 : ¬ x_6 < 0 := rhn_7
  show ok (F_X8_linesAt_B5 s a1 a2 x_5 x_6) _
  unfold F_X8_linesAt_B5
  refine ok_ite (fun h_8 => ?_) (fun h_9 => ?_)
  · exact ok_some (lp_inr (trivial))
  · refine ok_b1 (T_X10_at isT_4 hR.1) (fun v_10 _ => ?_)
    refine ok_ite (fun h_12 => ?_) (fun h_13 => ?_)
    · refine ok_b1 (T_X10_at isT_4 hR.1) (fun v_14 _ => ?_)
      refine ok_ite (fun h_16 => ?_) (fun h_17 => ?_)
      · unfold F_X8_linesAt_59
        refine ok_ite (fun h_18 => ?_) (fun h_19 => ?_)
        · unfold F_X8_linesAt_72
          exact ok_some (lp_inl ⟨rfl, rfl, (up_nn hn_7 (ge_t h_9))⟩ (up_t (ge_t h_9)))
        · unfold F_X8_linesAt_72
          exact ok_some (lp_inl ⟨rfl, rfl, (up_nn hn_7 (ge_t h_9))⟩ (up_t (ge_t h_9)))
      · unfold F_X8_linesAt_58
        unfold F_X8_linesAt_59
        refine ok_ite (fun h_20 => ?_) (fun h_21 => ?_)
        · unfold F_X8_linesAt_72
          exact ok_some (lp_inl ⟨rfl, rfl, (up_nn hn_7 (ge_t h_9))⟩ (up_t (ge_t h_9)))
        · unfold F_X8_linesAt_72
          exact ok_some (lp_inl ⟨rfl, rfl, (up_nn hn_7 (ge_t h_9))⟩ (up_t (ge_t h_9)))
    · unfold F_X8_linesAt_58
      unfold F_X8_linesAt_59
      refine ok_ite (fun h_22 => ?_) (fun h_23 => ?_)
      · unfold F_X8_linesAt_72
        exact ok_some (lp_inl ⟨rfl, rfl, (up_nn hn_7 (ge_t h_9))⟩ (up_t (ge_t h_9)))
      · unfold F_X8_linesAt_72
        exact ok_some (lp_inl ⟨rfl, rfl, (up_nn hn_7 (ge_t h_9))⟩ (up_t (ge_t h_9)))
theorem T_X8_clerkOfLastGoing {s : mG} {a1 : Int32} (hI : IC s) : ok (F_X8_clerkOfLastGoing s a1) PT := by
  have hR : RC true s s := RC_refl hI
  unfold F_X8_clerkOfLastGoing
  unfold F_X8_clerkOfLastGoing_L13
  refine ok_whl (fun v => a1 = v.1) (fun v => mDn v.2) rfl (fun v hv => ?_)
  obtain ⟨x_4, x_5⟩ := v
  obtain rfl := hv
  show ok (F_X8_clerkOfLastGoing_B13 s a1 x_5) _
  unfold F_X8_clerkOfLastGoing_B13
  refine ok_ite (fun h_6 => ?_) (fun h_7 => ?_)
  · exact ok_some (lp_inr (trivial))
  · refine ok_b1 (T_X10_at isT_4 hR.1) (fun v_8 _ => ?_)
    refine ok_ite (fun h_10 => ?_) (fun h_11 => ?_)
    · refine ok_b1 (T_X10_at isT_4 hR.1) (fun v_12 _ => ?_)
      refine ok_ite (fun h_14 => ?_) (fun h_15 => ?_)
      · refine ok_b1 (T_X10_at isT_4 hR.1) (fun v_16 _ => ?_)
        exact ok_some (lp_inr (trivial))
      · unfold F_X8_clerkOfLastGoing_61
        exact ok_some (lp_inl rfl (dn_t h_7))
    · unfold F_X8_clerkOfLastGoing_61
      exact ok_some (lp_inl rfl (dn_t h_7))
theorem T_X8_outSeenBy {s : mG} {a1 : Int32} (hI : IC s) : ok (F_X8_outSeenBy s a1) PT := by
  have hR : RC true s s := RC_refl hI
  unfold F_X8_outSeenBy
  unfold F_X8_outSeenBy_L4
  refine ok_whl (fun v => a1 = v.1 ∧ ¬ v.2.2 < 0) (fun v => mUp v.2.2) ⟨rfl, nn0⟩ (fun v hv => ?_)
  obtain ⟨x_3, x_4, x_5⟩ := v
  obtain ⟨rfl, rhn_6⟩ := hv
  have hn_6 : ¬ x_5 < 0 := rhn_6
  show ok (F_X8_outSeenBy_B4 s a1 x_4 x_5) _
  unfold F_X8_outSeenBy_B4
  refine ok_ite (fun h_7 => ?_) (fun h_8 => ?_)
  · exact ok_some (lp_inr (trivial))
  · refine ok_b1 (T_X2_isOut isH_1 hR.1) (fun v_9 (hv_10 : PB v_9) => ?_)
    refine ok_ite (fun h_11 => ?_) (fun h_12 => ?_)
    · unfold F_X8_outSeenBy_45
      unfold F_X8_outSeenBy_46
      exact ok_some (lp_inl ⟨rfl, (up_nn hn_6 (ge_t h_8))⟩ (up_t (ge_t h_8)))
    · refine ok_b1 (T_X8_clerkOfLastGoing hR.1) (fun v_13 _ => ?_)
      refine ok_ite (fun h_15 => ?_) (fun h_16 => ?_)
      · unfold F_X8_outSeenBy_46
        exact ok_some (lp_inl ⟨rfl, (up_nn hn_6 (ge_t h_8))⟩ (up_t (ge_t h_8)))
      · unfold F_X8_outSeenBy_45
        unfold F_X8_outSeenBy_46
        exact ok_some (lp_inl ⟨rfl, (up_nn hn_6 (ge_t h_8))⟩ (up_t (ge_t h_8)))
theorem T_X9_roomsBefore {s : mG} {a1 : Int32} (hI : IC s) : ok (F_X9_roomsBefore s a1) PT := by
  have hR : RC true s s := RC_refl hI
  unfold F_X9_roomsBefore
  unfold F_X9_roomsBefore_L4
  refine ok_whl (fun v => a1 = v.1 ∧ ¬ v.2.2 < 0) (fun v => mUp v.2.2) ⟨rfl, nn0⟩ (fun v hv => ?_)
  obtain ⟨x_7, x_8, x_9⟩ := v
  obtain ⟨rfl, rhn_10⟩ := hv
  have hn_10 : ¬ x_9 < 0 := rhn_10
  show ok (F_X9_roomsBefore_B4 s a1 x_8 x_9) _
  unfold F_X9_roomsBefore_B4
  refine ok_ite (fun h_11 => ?_) (fun h_12 => ?_)
  · exact ok_some (lp_inr (trivial))
  · refine ok_b1 (T_X11_cell sh84 hR.1) (fun v_13 _ => ?_)
    refine ok_b1 (T_X11_cell sh84 hR.1) (fun v_15 _ => ?_)
    refine ok_ite (fun h_17 => ?_) (fun h_18 => ?_)
    · unfold F_X9_roomsBefore_42
      refine ok_b1 (T_X11_cell sh84 hR.1) (fun v_19 _ => ?_)
      refine ok_b1 (T_X11_cell sh84 hR.1) (fun v_21 _ => ?_)
      refine ok_ite (fun h_23 => ?_) (fun h_24 => ?_)
      · unfold F_X9_roomsBefore_68
        refine ok_ite (fun h_25 => ?_) (fun h_26 => ?_)
        · refine ok_ite (fun h_27 => ?_) (fun h_28 => ?_)
          · unfold F_X9_roomsBefore_90
            unfold F_X9_roomsBefore_91
            exact ok_some (lp_inl ⟨rfl, (up_nn hn_10 (ge_t h_12))⟩ (up_t (ge_t h_12)))
          · refine ok_ite (fun h_29 => ?_) (fun h_30 => ?_)
            · unfold F_X9_roomsBefore_90
              unfold F_X9_roomsBefore_91
              exact ok_some (lp_inl ⟨rfl, (up_nn hn_10 (ge_t h_12))⟩ (up_t (ge_t h_12)))
            · unfold F_X9_roomsBefore_86
              unfold F_X9_roomsBefore_91
              exact ok_some (lp_inl ⟨rfl, (up_nn hn_10 (ge_t h_30))⟩ (up_t (ge_t h_30)))
        · unfold F_X9_roomsBefore_86
          unfold F_X9_roomsBefore_91
          exact ok_some (lp_inl ⟨rfl, (up_nn hn_10 (ge_t h_12))⟩ (up_t (ge_t h_12)))
      · unfold F_X9_roomsBefore_68
        refine ok_ite (fun h_31 => ?_) (fun h_32 => ?_)
        · refine ok_ite (fun h_33 => ?_) (fun h_34 => ?_)
          · unfold F_X9_roomsBefore_90
            unfold F_X9_roomsBefore_91
            exact ok_some (lp_inl ⟨rfl, (up_nn hn_10 (ge_t h_12))⟩ (up_t (ge_t h_12)))
          · refine ok_ite (fun h_35 => ?_) (fun h_36 => ?_)
            · unfold F_X9_roomsBefore_90
              unfold F_X9_roomsBefore_91
              exact ok_some (lp_inl ⟨rfl, (up_nn hn_10 (ge_t h_12))⟩ (up_t (ge_t h_12)))
            · unfold F_X9_roomsBefore_86
              unfold F_X9_roomsBefore_91
              exact ok_some (lp_inl ⟨rfl, (up_nn hn_10 (ge_t h_36))⟩ (up_t (ge_t h_36)))
        · unfold F_X9_roomsBefore_86
          unfold F_X9_roomsBefore_91
          exact ok_some (lp_inl ⟨rfl, (up_nn hn_10 (ge_t h_12))⟩ (up_t (ge_t h_12)))
    · unfold F_X9_roomsBefore_42
      refine ok_b1 (T_X11_cell sh84 hR.1) (fun v_37 _ => ?_)
      refine ok_b1 (T_X11_cell sh84 hR.1) (fun v_39 _ => ?_)
      refine ok_ite (fun h_41 => ?_) (fun h_42 => ?_)
      · unfold F_X9_roomsBefore_68
        refine ok_ite (fun h_43 => ?_) (fun h_44 => ?_)
        · refine ok_ite (fun h_45 => ?_) (fun h_46 => ?_)
          · unfold F_X9_roomsBefore_90
            unfold F_X9_roomsBefore_91
            exact ok_some (lp_inl ⟨rfl, (up_nn hn_10 (ge_t h_12))⟩ (up_t (ge_t h_12)))
          · refine ok_ite (fun h_47 => ?_) (fun h_48 => ?_)
            · unfold F_X9_roomsBefore_90
              unfold F_X9_roomsBefore_91
              exact ok_some (lp_inl ⟨rfl, (up_nn hn_10 (ge_t h_12))⟩ (up_t (ge_t h_12)))
            · unfold F_X9_roomsBefore_86
              unfold F_X9_roomsBefore_91
              exact ok_some (lp_inl ⟨rfl, (up_nn hn_10 (ge_t h_48))⟩ (up_t (ge_t h_48)))
        · unfold F_X9_roomsBefore_86
          unfold F_X9_roomsBefore_91
          exact ok_some (lp_inl ⟨rfl, (up_nn hn_10 (ge_t h_12))⟩ (up_t (ge_t h_12)))
      · unfold F_X9_roomsBefore_68
        refine ok_ite (fun h_49 => ?_) (fun h_50 => ?_)
        · refine ok_ite (fun h_51 => ?_) (fun h_52 => ?_)
          · unfold F_X9_roomsBefore_90
            unfold F_X9_roomsBefore_91
            exact ok_some (lp_inl ⟨rfl, (up_nn hn_10 (ge_t h_12))⟩ (up_t (ge_t h_12)))
          · refine ok_ite (fun h_53 => ?_) (fun h_54 => ?_)
            · unfold F_X9_roomsBefore_90
              unfold F_X9_roomsBefore_91
              exact ok_some (lp_inl ⟨rfl, (up_nn hn_10 (ge_t h_12))⟩ (up_t (ge_t h_12)))
            · unfold F_X9_roomsBefore_86
              unfold F_X9_roomsBefore_91
              exact ok_some (lp_inl ⟨rfl, (up_nn hn_10 (ge_t h_54))⟩ (up_t (ge_t h_54)))
        · unfold F_X9_roomsBefore_86
          unfold F_X9_roomsBefore_91
          exact ok_some (lp_inl ⟨rfl, (up_nn hn_10 (ge_t h_12))⟩ (up_t (ge_t h_12)))
theorem T_X9_roomAt {a1 : Int32} {s : mG} (hI : IC s) : ok (F_X9_roomAt a1 s) (fun τ => RC true s τ.2) := by
  have hR : RC true s s := RC_refl hI
  unfold F_X9_roomAt
  unfold F_X9_roomAt_L2
  refine ok_whl (fun v => a1 = v.1 ∧ RC true s v.2.2 ∧ ¬ v.2.1 < 0) (fun v => mUp v.2.1) ⟨rfl, hR, nn0⟩ (fun v hv => ?_)
  obtain ⟨x_5, x_6, s_7⟩ := v
  obtain ⟨rfl, rhs_8, rhn_9⟩ := hv
  have hs_8 : RC true s s_7 := rhs_8
  have hn_9 : ¬ x_6 < 0 := rhn_9
  show ok (F_X9_roomAt_B2 a1 x_6 s_7) _
  unfold F_X9_roomAt_B2
  refine ok_ite (fun h_10 => ?_) (fun h_11 => ?_)
  · refine ok_b1r ?_
    unfold F_X9_roomAt_L51
    refine ok_whl (fun v => a1 = v.1 ∧ RC true s v.2.2 ∧ ¬ v.2.1 < 0) (fun v => mUp v.2.1) ⟨rfl, hs_8, nn0⟩ (fun v hv => ?_)
    obtain ⟨x_13, x_14, s_15⟩ := v
    obtain ⟨rfl, rhs_16, rhn_17⟩ := hv
    have hs_16 : RC true s s_15 := rhs_16
    have hn_17 : ¬ x_14 < 0 := rhn_17
    show ok (F_X9_roomAt_B51 a1 x_14 s_15) _
    unfold F_X9_roomAt_B51
    refine ok_ite (fun h_18 => ?_) (fun h_19 => ?_)
    · exact ok_some (lp_inr (hs_16))
    · refine ok_b1 (T_X9_roomsBefore hs_16.1) (fun v_20 _ => ?_)
      refine ok_ite (fun h_22 => ?_) (fun h_23 => ?_)
      · exact ok_some (lp_inr (hs_16))
      · exact ok_some (lp_inl ⟨rfl, hs_16, (up_nn hn_17 (ge_t h_19))⟩ (up_t (ge_t h_19)))
  · refine ok_b1 (T_X10_at isT_14 hs_8.1) (fun v_24 _ => ?_)
    refine ok_b2 (ok_tr2 hs_8 (T_X0_sureOf hs_8.1)) (fun v_26 s_27 (hs_28 : RC true s s_27) => ?_)
    refine ok_b1 (ok_tr hs_28 (T_X11_put sh84 (by decide) hs_28.1)) (fun s_29 (hs_30 : RC true s s_29) => ?_)
    exact ok_some (lp_inl ⟨rfl, hs_30, (up_nn hn_9 (ge_t h_11))⟩ (up_t (ge_t h_11)))
theorem T_X9_worthOf {s : mG} {a1 : Int32} (hI : IC s) : ok (F_X9_worthOf s a1) PT := by
  have hR : RC true s s := RC_refl hI
  unfold F_X9_worthOf
  unfold F_X9_worthOf_L4
  refine ok_whl (fun v => a1 = v.1 ∧ ¬ v.2.2 < 0) (fun v => mUp v.2.2) ⟨rfl, nn0⟩ (fun v hv => ?_)
  obtain ⟨x_2, x_3, x_4⟩ := v
  obtain ⟨rfl, rhn_5⟩ := hv
  have hn_5 : ¬ x_4 < 0 := rhn_5
  show ok (F_X9_worthOf_B4 s a1 x_3 x_4) _
  unfold F_X9_worthOf_B4
  refine ok_ite (fun h_6 => ?_) (fun h_7 => ?_)
  · exact ok_some (lp_inr (trivial))
  · refine ok_ite (fun h_8 => ?_) (fun h_9 => ?_)
    · refine ok_b1 (T_X10_at isT_14 hR.1) (fun v_10 _ => ?_)
      unfold F_X9_worthOf_44
      exact ok_some (lp_inl ⟨rfl, (up_nn hn_5 (ge_t h_7))⟩ (up_t (ge_t h_7)))
    · unfold F_X9_worthOf_44
      exact ok_some (lp_inl ⟨rfl, (up_nn hn_5 (ge_t h_7))⟩ (up_t (ge_t h_7)))
theorem T_X9_isBetter {s : mG} {a1 : Int32} {a2 : Int32} (hI : IC s) : ok (F_X9_isBetter s a1 a2) PB := by
  have hR : RC true s s := RC_refl hI
  unfold F_X9_isBetter
  refine ok_b1 (T_X9_worthOf hR.1) (fun v_1 _ => ?_)
  refine ok_b1 (T_X9_worthOf hR.1) (fun v_3 _ => ?_)
  refine ok_ite (fun h_5 => ?_) (fun h_6 => ?_)
  · unfold F_X9_isBetter_31
    exact ok_some pb1
  · refine ok_ite (fun h_7 => ?_) (fun h_8 => ?_)
    · refine ok_b1 (T_J6_bitCount_0f7a4 hR.1) (fun v_9 _ => ?_)
      refine ok_b1 (T_J6_bitCount_0f7a4 hR.1) (fun v_11 _ => ?_)
      refine ok_ite (fun h_13 => ?_) (fun h_14 => ?_)
      · unfold F_X9_isBetter_35
        exact ok_some pb0
      · unfold F_X9_isBetter_31
        exact ok_some pb1
    · unfold F_X9_isBetter_35
      exact ok_some pb0
theorem T_X9_minutesDueBy {s : mG} {a1 : Int32} {a2 : Int32} (hI : IC s) : ok (F_X9_minutesDueBy s a1 a2) PT := by
  have hR : RC true s s := RC_refl hI
  unfold F_X9_minutesDueBy
  unfold F_X9_minutesDueBy_L5
  refine ok_whl (fun v => a1 = v.1 ∧ a2 = v.2.1 ∧ ¬ v.2.2.2 < 0) (fun v => mUp v.2.2.2) ⟨rfl, rfl, nn0⟩ (fun v hv => ?_)
  obtain ⟨x_5, x_6, x_7, x_8⟩ := v
  obtain ⟨rfl, rfl, rhn_9⟩ := hv
  have hn_9 : ¬ x_8 < 0 := rhn_9
  show ok (F_X9_minutesDueBy_B5 s a1 a2 x_7 x_8) _
  unfold F_X9_minutesDueBy_B5
  refine ok_ite (fun h_10 => ?_) (fun h_11 => ?_)
  · exact ok_some (lp_inr (trivial))
  · refine ok_ite (fun h_12 => ?_) (fun h_13 => ?_)
    · refine ok_b1 (T_X10_at isT_14 hR.1) (fun v_14 _ => ?_)
      refine ok_ite (fun h_16 => ?_) (fun h_17 => ?_)
      · unfold F_X9_minutesDueBy_51
        unfold F_X9_minutesDueBy_52
        refine ok_ite (fun h_18 => ?_) (fun h_19 => ?_)
        · unfold F_X9_minutesDueBy_77
          exact ok_some (lp_inl ⟨rfl, rfl, (up_nn hn_9 (ge_t h_11))⟩ (up_t (ge_t h_11)))
        · refine ok_b1 (T_X10_at isT_14 hR.1) (fun v_20 _ => ?_)
          unfold F_X9_minutesDueBy_77
          exact ok_some (lp_inl ⟨rfl, rfl, (up_nn hn_9 (ge_t h_11))⟩ (up_t (ge_t h_11)))
      · unfold F_X9_minutesDueBy_52
        refine ok_ite (fun h_22 => ?_) (fun h_23 => ?_)
        · unfold F_X9_minutesDueBy_77
          exact ok_some (lp_inl ⟨rfl, rfl, (up_nn hn_9 (ge_t h_11))⟩ (up_t (ge_t h_11)))
        · refine ok_b1 (T_X10_at isT_14 hR.1) (fun v_24 _ => ?_)
          unfold F_X9_minutesDueBy_77
          exact ok_some (lp_inl ⟨rfl, rfl, (up_nn hn_9 (ge_t h_11))⟩ (up_t (ge_t h_11)))
    · unfold F_X9_minutesDueBy_51
      unfold F_X9_minutesDueBy_52
      refine ok_ite (fun h_26 => ?_) (fun h_27 => ?_)
      · unfold F_X9_minutesDueBy_77
        exact ok_some (lp_inl ⟨rfl, rfl, (up_nn hn_9 (ge_t h_11))⟩ (up_t (ge_t h_11)))
      · refine ok_b1 (T_X10_at isT_14 hR.1) (fun v_28 _ => ?_)
        unfold F_X9_minutesDueBy_77
        exact ok_some (lp_inl ⟨rfl, rfl, (up_nn hn_9 (ge_t h_11))⟩ (up_t (ge_t h_11)))
theorem T_X9_canBeDone {s : mG} {a1 : Int32} (hI : IC s) : ok (F_X9_canBeDone s a1) PB := by
  have hR : RC true s s := RC_refl hI
  unfold F_X9_canBeDone
  unfold F_X9_canBeDone_L2
  refine ok_whl (fun v => a1 = v.1 ∧ ¬ v.2 < 0) (fun v => mUp v.2) ⟨rfl, nn0⟩ (fun v hv => ?_)
  obtain ⟨x_3, x_4⟩ := v
  obtain ⟨rfl, rhn_5⟩ := hv
  have hn_5 : ¬ x_4 < 0 := rhn_5
  show ok (F_X9_canBeDone_B2 s a1 x_4) _
  unfold F_X9_canBeDone_B2
  refine ok_ite (fun h_6 => ?_) (fun h_7 => ?_)
  · exact ok_some (lp_inr (pb1))
  · refine ok_b1 (T_X10_at isT_14 hR.1) (fun v_8 _ => ?_)
    refine ok_ite (fun h_10 => ?_) (fun h_11 => ?_)
    · refine ok_b1 (T_X9_minutesDueBy hR.1) (fun v_12 _ => ?_)
      refine ok_ite (fun h_14 => ?_) (fun h_15 => ?_)
      · unfold F_X9_canBeDone_50
        exact ok_some (lp_inl ⟨rfl, (up_nn hn_5 (ge_t h_7))⟩ (up_t (ge_t h_7)))
      · exact ok_some (lp_inr (pb0))
    · unfold F_X9_canBeDone_50
      exact ok_some (lp_inl ⟨rfl, (up_nn hn_5 (ge_t h_7))⟩ (up_t (ge_t h_7)))
theorem T_X9_bestRooms {s : mG} (hI : IC s) : ok (F_X9_bestRooms s) PT := by
  have hR : RC true s s := RC_refl hI
  unfold F_X9_bestRooms
  unfold F_X9_bestRooms_L4
  refine ok_whl (fun v => ¬ v.2 < 0) (fun v => mUp v.2) nn1 (fun v hv => ?_)
  obtain ⟨x_3, x_4⟩ := v
  have hn_5 : ¬ x_4 < 0 := hv
  show ok (F_X9_bestRooms_B4 s x_3 x_4) _
  unfold F_X9_bestRooms_B4
  refine ok_ite (fun h_6 => ?_) (fun h_7 => ?_)
  · exact ok_some (lp_inr (trivial))
  · refine ok_b1 (T_X9_canBeDone hR.1) (fun v_8 (hv_9 : PB v_8) => ?_)
    refine ok_ite (fun h_10 => ?_) (fun h_11 => ?_)
    · unfold F_X9_bestRooms_39
      exact ok_some (lp_inl (up_nn hn_5 (ge_t h_7)) (up_t (ge_t h_7)))
    · refine ok_b1 (T_X9_isBetter hR.1) (fun v_12 (hv_13 : PB v_12) => ?_)
      refine ok_ite (fun h_14 => ?_) (fun h_15 => ?_)
      · unfold F_X9_bestRooms_39
        exact ok_some (lp_inl (up_nn hn_5 (ge_t h_7)) (up_t (ge_t h_7)))
      · unfold F_X9_bestRooms_39
        exact ok_some (lp_inl (up_nn hn_5 (ge_t h_7)) (up_t (ge_t h_7)))
theorem T_X9_searchOn {rec : Int32 → Int32 → Int32 → Int32 → Int64 → mG → Option (mG)} {a1 : Int32} {a2 : Int32} {a3 : Int32} {a4 : Int32} {a5 : Int64} {s : mG} (hrec : ¬ ci 4 ≤ a4 → ∀ (b1 b2 b3 : Int32) (b5 : Int64) (s : mG), IC s → ok (rec b1 b2 b3 (a4 + ci 1) b5 s) (RC true s)) (hI : IC s) : ok (F_X9_searchOn rec a1 a2 a3 a4 a5 s) (RC true s) := by
  have hR : RC true s s := RC_refl hI
  unfold F_X9_searchOn
  refine ok_ite (fun h_1 => ?_) (fun h_2 => ?_)
  · unfold F_X9_searchOn_62
    unfold F_X9_searchOn_L65
    refine ok_whl (fun v => a1 = v.1 ∧ a2 = v.2.1 ∧ a3 = v.2.2.1 ∧ a4 = v.2.2.2.1 ∧ a5 = v.2.2.2.2.1 ∧ RC true s v.2.2.2.2.2.2 ∧ ¬ v.2.2.2.2.2.1 < 0) (fun v => mUp v.2.2.2.2.2.1) ⟨rfl, rfl, rfl, rfl, rfl, hR, nn0⟩ (fun v hv => ?_)
    obtain ⟨x_7, x_8, x_9, x_10, x_11, x_12, s_13⟩ := v
    obtain ⟨rfl, rfl, rfl, rfl, rfl, rhs_14, rhn_15⟩ := hv
    have hs_14 : RC true s s_13 := rhs_14
    have hn_15 : ¬ x_12 < 0 := rhn_15
    show ok (F_X9_searchOn_B65 rec a1 a2 a3 a4 a5 x_12 s_13) _
    unfold F_X9_searchOn_B65
    refine ok_ite (fun h_16 => ?_) (fun h_17 => ?_)
    · exact ok_some (lp_inr (hs_14))
    · refine ok_ite (fun h_18 => ?_) (fun h_19 => ?_)
      · exact ok_some (lp_inr (hs_14))
      · extract_lets +onlyGivenNames v_20
        clear_value v_20
        refine ok_ite (fun h_21 => ?_) (fun h_22 => ?_)
        · refine ok_ite (fun h_23 => ?_) (fun h_24 => ?_)
          · unfold F_X9_searchOn_148
            exact ok_some (lp_inl ⟨rfl, rfl, rfl, rfl, rfl, hs_14, (up_nn hn_15 (ge_t h_17))⟩ (up_t (ge_t h_17)))
          · refine ok_b1 (ok_tr hs_14 (T_X11_put sh86 (by decide) hs_14.1)) (fun s_25 (hs_26 : RC true s s_25) => ?_)
            refine ok_b1 (T_X11_cell sh85 hs_26.1) (fun v_27 _ => ?_)
            refine ok_b1 (ok_tr hs_26 (hrec h_19 _ _ _ _ _ hs_26.1)) (fun s_29 (hs_30 : RC true s s_29) => ?_)
            unfold F_X9_searchOn_148
            exact ok_some (lp_inl ⟨rfl, rfl, rfl, rfl, rfl, hs_30, (up_nn hn_15 (ge_t h_17))⟩ (up_t (ge_t h_17)))
        · unfold F_X9_searchOn_148
          exact ok_some (lp_inl ⟨rfl, rfl, rfl, rfl, rfl, hs_14, (up_nn hn_15 (ge_t h_17))⟩ (up_t (ge_t h_17)))
  · extract_lets +onlyGivenNames s_31
    have hs_32 : RC true s s_31 := (RC_muL hR (by decide))
    clear_value s_31
    extract_lets +onlyGivenNames s_33
    have hs_34 : RC true s s_33 := (RC_mu hs_32 (by decide))
    clear_value s_33
    unfold F_X9_searchOn_L25
    refine ok_whl (fun v => a1 = v.1 ∧ a2 = v.2.1 ∧ a3 = v.2.2.1 ∧ a4 = v.2.2.2.1 ∧ a5 = v.2.2.2.2.1 ∧ RC true s v.2.2.2.2.2.2 ∧ ¬ v.2.2.2.2.2.1 < 0) (fun v => mUp v.2.2.2.2.2.1) ⟨rfl, rfl, rfl, rfl, rfl, hs_34, nn0⟩ (fun v hv => ?_)
    obtain ⟨x_37, x_38, x_39, x_40, x_41, x_42, s_43⟩ := v
    obtain ⟨rfl, rfl, rfl, rfl, rfl, rhs_44, rhn_45⟩ := hv
    have hs_44 : RC true s s_43 := rhs_44
    have hn_45 : ¬ x_42 < 0 := rhn_45
    show ok (F_X9_searchOn_B25 rec a1 a2 a3 a4 a5 x_42 s_43) _
    unfold F_X9_searchOn_B25
    refine ok_ite (fun h_46 => ?_) (fun h_47 => ?_)
    · refine ok_b1r ?_
      unfold F_X9_searchOn_62
      unfold F_X9_searchOn_L65
      refine ok_whl (fun v => a1 = v.1 ∧ a2 = v.2.1 ∧ a3 = v.2.2.1 ∧ a4 = v.2.2.2.1 ∧ a5 = v.2.2.2.2.1 ∧ RC true s v.2.2.2.2.2.2 ∧ ¬ v.2.2.2.2.2.1 < 0) (fun v => mUp v.2.2.2.2.2.1) ⟨rfl, rfl, rfl, rfl, rfl, hs_44, nn0⟩ (fun v hv => ?_)
      obtain ⟨x_48, x_49, x_50, x_51, x_52, x_53, s_54⟩ := v
      obtain ⟨rfl, rfl, rfl, rfl, rfl, rhs_55, rhn_56⟩ := hv
      have hs_55 : RC true s s_54 := rhs_55
      have hn_56 : ¬ x_53 < 0 := rhn_56
      show ok (F_X9_searchOn_B65 rec a1 a2 a3 a4 a5 x_53 s_54) _
      unfold F_X9_searchOn_B65
      refine ok_ite (fun h_57 => ?_) (fun h_58 => ?_)
      · exact ok_some (lp_inr (hs_55))
      · refine ok_ite (fun h_59 => ?_) (fun h_60 => ?_)
        · exact ok_some (lp_inr (hs_55))
        · extract_lets +onlyGivenNames v_61
          clear_value v_61
          refine ok_ite (fun h_62 => ?_) (fun h_63 => ?_)
          · refine ok_ite (fun h_64 => ?_) (fun h_65 => ?_)
            · unfold F_X9_searchOn_148
              exact ok_some (lp_inl ⟨rfl, rfl, rfl, rfl, rfl, hs_55, (up_nn hn_56 (ge_t h_58))⟩ (up_t (ge_t h_58)))
            · refine ok_b1 (ok_tr hs_55 (T_X11_put sh86 (by decide) hs_55.1)) (fun s_66 (hs_67 : RC true s s_66) => ?_)
              refine ok_b1 (T_X11_cell sh85 hs_67.1) (fun v_68 _ => ?_)
              refine ok_b1 (ok_tr hs_67 (hrec h_60 _ _ _ _ _ hs_67.1)) (fun s_70 (hs_71 : RC true s s_70) => ?_)
              unfold F_X9_searchOn_148
              exact ok_some (lp_inl ⟨rfl, rfl, rfl, rfl, rfl, hs_71, (up_nn hn_56 (ge_t h_58))⟩ (up_t (ge_t h_58)))
          · unfold F_X9_searchOn_148
            exact ok_some (lp_inl ⟨rfl, rfl, rfl, rfl, rfl, hs_55, (up_nn hn_56 (ge_t h_58))⟩ (up_t (ge_t h_58)))
    · refine ok_ite (fun h_72 => ?_) (fun h_73 => ?_)
      · refine ok_b1r ?_
        unfold F_X9_searchOn_62
        unfold F_X9_searchOn_L65
        refine ok_whl (fun v => a1 = v.1 ∧ a2 = v.2.1 ∧ a3 = v.2.2.1 ∧ a4 = v.2.2.2.1 ∧ a5 = v.2.2.2.2.1 ∧ RC true s v.2.2.2.2.2.2 ∧ ¬ v.2.2.2.2.2.1 < 0) (fun v => mUp v.2.2.2.2.2.1) ⟨rfl, rfl, rfl, rfl, rfl, hs_44, nn0⟩ (fun v hv => ?_)
        obtain ⟨x_74, x_75, x_76, x_77, x_78, x_79, s_80⟩ := v
        obtain ⟨rfl, rfl, rfl, rfl, rfl, rhs_81, rhn_82⟩ := hv
        have hs_81 : RC true s s_80 := rhs_81
        have hn_82 : ¬ x_79 < 0 := rhn_82
        show ok (F_X9_searchOn_B65 rec a1 a2 a3 a4 a5 x_79 s_80) _
        unfold F_X9_searchOn_B65
        refine ok_ite (fun h_83 => ?_) (fun h_84 => ?_)
        · exact ok_some (lp_inr (hs_81))
        · refine ok_ite (fun h_85 => ?_) (fun h_86 => ?_)
          · exact ok_some (lp_inr (hs_81))
          · extract_lets +onlyGivenNames v_87
            clear_value v_87
            refine ok_ite (fun h_88 => ?_) (fun h_89 => ?_)
            · refine ok_ite (fun h_90 => ?_) (fun h_91 => ?_)
              · unfold F_X9_searchOn_148
                exact ok_some (lp_inl ⟨rfl, rfl, rfl, rfl, rfl, hs_81, (up_nn hn_82 (ge_t h_84))⟩ (up_t (ge_t h_84)))
              · refine ok_b1 (ok_tr hs_81 (T_X11_put sh86 (by decide) hs_81.1)) (fun s_92 (hs_93 : RC true s s_92) => ?_)
                refine ok_b1 (T_X11_cell sh85 hs_93.1) (fun v_94 _ => ?_)
                refine ok_b1 (ok_tr hs_93 (hrec h_86 _ _ _ _ _ hs_93.1)) (fun s_96 (hs_97 : RC true s s_96) => ?_)
                unfold F_X9_searchOn_148
                exact ok_some (lp_inl ⟨rfl, rfl, rfl, rfl, rfl, hs_97, (up_nn hn_82 (ge_t h_84))⟩ (up_t (ge_t h_84)))
            · unfold F_X9_searchOn_148
              exact ok_some (lp_inl ⟨rfl, rfl, rfl, rfl, rfl, hs_81, (up_nn hn_82 (ge_t h_84))⟩ (up_t (ge_t h_84)))
      · refine ok_b1 (T_X11_cell sh86 hs_44.1) (fun v_98 _ => ?_)
        refine ok_b1 (ok_tr hs_44 (T_X11_put sh87 (by decide) hs_44.1)) (fun s_100 (hs_101 : RC true s s_100) => ?_)
        exact ok_some (lp_inl ⟨rfl, rfl, rfl, rfl, rfl, hs_101, (up_nn hn_45 (ge_t h_73))⟩ (up_t (ge_t h_73)))
theorem TQ_X9 : ∀ (n : Nat) (a4 : Int32), 0 ≤ a4.toInt → a4.toInt ≤ 4 → 4 < a4.toInt + n → ∀ (a1 a2 a3 : Int32) (a5 : Int64) (s : mG), IC s → ok (Q_X9_searchOn n a1 a2 a3 a4 a5 s) (RC true s) := by
  intro n
  induction n with
  | zero => intro a4 h0 h1 h2; omega
  | succ n ih =>
    intro a4 h0 h1 h2 a1 a2 a3 a5 s hI
    show ok (F_X9_searchOn (Q_X9_searchOn n) a1 a2 a3 a4 a5 s) (RC true s)
    refine T_X9_searchOn (fun h b1 b2 b3 b5 s hI => ?_) hI
    rw [Int32.le_iff_toInt_le, show (ci 4).toInt = 4 by decide] at h
    have e := t_up (x := a4) (by omega)
    exact ih _ (by rw [e]; omega) (by rw [e]; omega) (by rw [e]; omega) b1 b2 b3 b5 s hI
theorem T_X9_searchFloors {a1 : Int32} {s : mG} (hI : IC s) : ok (F_X9_searchFloors a1 s) (RC true s) := by
  have hR : RC true s s := RC_refl hI
  unfold F_X9_searchFloors
  unfold F_X9_searchFloors_L2
  refine ok_whl (fun v => a1 = v.1 ∧ RC true s v.2.2 ∧ ¬ v.2.1 < 0) (fun v => mUp v.2.1) ⟨rfl, hR, nn0⟩ (fun v hv => ?_)
  obtain ⟨x_2, x_3, s_4⟩ := v
  obtain ⟨rfl, rhs_5, rhn_6⟩ := hv
  have hs_5 : RC true s s_4 := rhs_5
  have hn_6 : ¬ x_3 < 0 := rhn_6
  show ok (F_X9_searchFloors_B2 a1 x_3 s_4) _
  unfold F_X9_searchFloors_B2
  refine ok_ite (fun h_7 => ?_) (fun h_8 => ?_)
  · refine ok_b1r ?_
    unfold F_X9_searchFloors_L26
    refine ok_whl (fun v => a1 = v.1 ∧ RC true s v.2.2 ∧ ¬ v.2.1 < 0) (fun v => mUp v.2.1) ⟨rfl, hs_5, nn0⟩ (fun v hv => ?_)
    obtain ⟨x_17, x_18, s_19⟩ := v
    obtain ⟨rfl, rhs_20, rhn_21⟩ := hv
    have hs_20 : RC true s s_19 := rhs_20
    have hn_21 : ¬ x_18 < 0 := rhn_21
    show ok (F_X9_searchFloors_B26 a1 x_18 s_19) _
    unfold F_X9_searchFloors_B26
    refine ok_ite (fun h_22 => ?_) (fun h_23 => ?_)
    · extract_lets +onlyGivenNames s_24
      have hs_25 : RC true s s_24 := (RC_muL hs_20 (by decide))
      clear_value s_24
      extract_lets +onlyGivenNames s_26
      have hs_27 : RC true s s_26 := (RC_mu hs_25 (by decide))
      clear_value s_26
      refine ok_b1 (ok_tr hs_27 (T_X9_searchOn (fun _ b1 b2 b3 b5 s h => TQ_X9 5 _ (by decide) (by decide) (by decide) b1 b2 b3 b5 s h) hs_27.1)) (fun s_28 (hs_29 : RC true s s_28) => ?_)
      exact ok_some (lp_inr (hs_29))
    · refine ok_b1 (T_X10_at isT_2 hs_20.1) (fun v_30 _ => ?_)
      refine ok_b1 (T_X11_cell sh85 hs_20.1) (fun v_32 _ => ?_)
      refine ok_b2 (ok_tr2 hs_20 (T_X0_sureOf hs_20.1)) (fun v_34 s_35 (hs_36 : RC true s s_35) => ?_)
      refine ok_b1 (ok_tr hs_36 (T_X11_put sh85 (by decide) hs_36.1)) (fun s_37 (hs_38 : RC true s s_37) => ?_)
      exact ok_some (lp_inl ⟨rfl, hs_38, (up_nn hn_21 (ge_t h_23))⟩ (up_t (ge_t h_23)))
  · refine ok_nn (idx_ok (by decide) hn_6 h_8) ?_
    extract_lets +onlyGivenNames s_39
    have hs_40 : RC true s s_39 := (RC_mw hs_5 (by decide))
    clear_value s_39
    exact ok_some (lp_inl ⟨rfl, hs_40, (up_nn hn_6 (ge_t h_8))⟩ (up_t (ge_t h_8)))
end
