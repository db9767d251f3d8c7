noncomputable section
theorem T_X7_addToken {a1 : Int32} {a2 : Int32} {a3 : Int32} {s : mG} (hI : IC s) : ok (F_X7_addToken a1 a2 a3 s) (RC true s) := by
  have hR : RC true s s := RC_refl hI
  unfold F_X7_addToken
  refine ok_b2 (ok_tr2 hR (T_X10_add isT_65 hR.1)) (fun v_1 s_2 (hs_3 : RC true s s_2) => ?_)
  refine ok_b1 (ok_tr hs_3 (T_X10_put isT_65 hs_3.1)) (fun s_4 (hs_5 : RC true s s_4) => ?_)
  refine ok_b1 (ok_tr hs_5 (T_X10_put isT_65 hs_5.1)) (fun s_6 (hs_7 : RC true s s_6) => ?_)
  refine ok_b1 (ok_tr hs_7 (T_X10_put isT_65 hs_7.1)) (fun s_8 (hs_9 : RC true s s_8) => ?_)
  exact ok_some hs_9
theorem T_X7_isWord {s : mG} {a1 : Int32} {a2 : Int32} {a3 : Int32} (hI : IC s) : ok (F_X7_isWord s a1 a2 a3) PB := by
  have hR : RC true s s := RC_refl hI
  unfold F_X7_isWord
  refine ok_ite (fun h_1 => ?_) (fun h_2 => ?_)
  · unfold F_X7_isWord_L21
    refine ok_whl (fun v => a1 = v.1 ∧ a2 = v.2.1 ∧ a3 = v.2.2.1 ∧ ¬ v.2.2.2 < 0) (fun v => mUp v.2.2.2) ⟨rfl, rfl, rfl, (imax_nn _)⟩ (fun v hv => ?_)
    obtain ⟨x_6, x_7, x_8, x_9⟩ := v
    obtain ⟨rfl, rfl, rfl, rhn_10⟩ := hv
    have hn_10 : ¬ x_9 < 0 := rhn_10
    show ok (F_X7_isWord_B21 s a1 a2 a3 x_9) _
    unfold F_X7_isWord_B21
    refine ok_ite (fun h_11 => ?_) (fun h_12 => ?_)
    · refine ok_b1r ?_
      unfold F_X7_isWord_68
      exact ok_some pb1
    · refine ok_b1 (T_len (by decide)) (fun v_13 (hv_14 : v_13 = cn 126) => ?_)
      refine ok_ite (fun h_15 => ?_) (fun h_16 => ?_)
      · refine ok_b1r ?_
        unfold F_X7_isWord_68
        exact ok_some pb1
      · refine ok_b1 (T_chr (by decide) hn_10 (t_rw hv_14 h_16)) (fun v_17 _ => ?_)
        refine ok_b1 (T_X11_cell sh64 hR.1) (fun v_19 _ => ?_)
        refine ok_ite (fun h_21 => ?_) (fun h_22 => ?_)
        · exact ok_some (lp_inl ⟨rfl, rfl, rfl, (up_nn hn_10 (ge_t h_16))⟩ (up_t (ge_t h_16)))
        · exact ok_some (lp_inr (pb0))
  · exact ok_some pb0
theorem T_X7_wordNumber {s : mG} {a1 : Int32} (hI : IC s) : ok (F_X7_wordNumber s a1) PT := by
  have hR : RC true s s := RC_refl hI
  unfold F_X7_wordNumber
  unfold F_X7_wordNumber_L7
  refine ok_whl (fun v => a1 = v.1 ∧ ¬ v.2.2.2 < 0) (fun v => mUp v.2.2.2) ⟨rfl, nn0⟩ (fun v hv => ?_)
  obtain ⟨x_4, x_5, x_6, x_7⟩ := v
  obtain ⟨rfl, rhn_8⟩ := hv
  have hn_8 : ¬ x_7 < 0 := rhn_8
  show ok (F_X7_wordNumber_B7 s a1 x_5 x_6 x_7) _
  unfold F_X7_wordNumber_B7
  refine ok_b1 (T_len (by decide)) (fun v_9 (hv_10 : v_9 = cn 126) => ?_)
  refine ok_ite (fun h_11 => ?_) (fun h_12 => ?_)
  · exact ok_some (lp_inr (trivial))
  · refine ok_b1 (T_chr (by decide) hn_8 (t_rw hv_10 h_12)) (fun v_13 _ => ?_)
    refine ok_ite (fun h_15 => ?_) (fun h_16 => ?_)
    · refine ok_b1 (T_X7_isWord hR.1) (fun v_17 (hv_18 : PB v_17) => ?_)
      refine ok_ite (fun h_19 => ?_) (fun h_20 => ?_)
      · unfold F_X7_wordNumber_50
        exact ok_some (lp_inl ⟨rfl, (up_nn hn_8 (ge_t h_12))⟩ (up_t (ge_t h_12)))
      · exact ok_some (lp_inr (trivial))
    · unfold F_X7_wordNumber_50
      exact ok_some (lp_inl ⟨rfl, (up_nn hn_8 (ge_t h_12))⟩ (up_t (ge_t h_12)))
theorem T_X7_isLetter {s : mG} {a1 : Int32} (hI : IC s) : ok (F_X7_isLetter s a1) PB := by
  have hR : RC true s s := RC_refl hI
  unfold F_X7_isLetter
  refine ok_ite (fun h_1 => ?_) (fun h_2 => ?_)
  · unfold F_X7_isLetter_12
    refine ok_ite (fun h_3 => ?_) (fun h_4 => ?_)
    · unfold F_X7_isLetter_28
      exact ok_some pb0
    · refine ok_ite (fun h_5 => ?_) (fun h_6 => ?_)
      · unfold F_X7_isLetter_28
        exact ok_some pb0
      · unfold F_X7_isLetter_24
        exact ok_some pb1
  · refine ok_ite (fun h_7 => ?_) (fun h_8 => ?_)
    · unfold F_X7_isLetter_24
      exact ok_some pb1
    · unfold F_X7_isLetter_12
      refine ok_ite (fun h_9 => ?_) (fun h_10 => ?_)
      · unfold F_X7_isLetter_28
        exact ok_some pb0
      · refine ok_ite (fun h_11 => ?_) (fun h_12 => ?_)
        · unfold F_X7_isLetter_28
          exact ok_some pb0
        · unfold F_X7_isLetter_24
          exact ok_some pb1
theorem T_X7_splitWord {s : mG} (hI : IC s) : ok (F_X7_splitWord s) (RC true s) := by
  have hR : RC true s s := RC_refl hI
  unfold F_X7_splitWord
  unfold F_X7_splitWord_L5
  refine ok_whl (fun v => (s.1 55 13) = v.1 ∧ RC true s v.2) (fun v => mUp (v.2.1 55 13)) ⟨rfl, hR⟩ (fun v hv => ?_)
  obtain ⟨x_4, s_5⟩ := v
  obtain ⟨rfl, rhs_6⟩ := hv
  have hs_6 : RC true s s_5 := rhs_6
  show ok (F_X7_splitWord_B5 (s.1 55 13) s_5) _
  unfold F_X7_splitWord_B5
  refine ok_ite (fun h_7 => ?_) (fun h_8 => ?_)
  · refine ok_b1r ?_
    unfold F_X7_splitWord_46
    refine ok_b1 (T_X7_wordNumber hs_6.1) (fun v_9 _ => ?_)
    refine ok_ite (fun h_11 => ?_) (fun h_12 => ?_)
    · unfold F_X7_splitWord_68
      refine ok_b1 (ok_tr hs_6 (T_X7_addToken hs_6.1)) (fun s_13 (hs_14 : RC true s s_13) => ?_)
      exact ok_some hs_14
    · unfold F_X7_splitWord_68
      refine ok_b1 (ok_tr hs_6 (T_X7_addToken hs_6.1)) (fun s_15 (hs_16 : RC true s s_15) => ?_)
      exact ok_some hs_16
  · refine ok_b1 (T_X11_cell sh64 hs_6.1) (fun v_17 _ => ?_)
    refine ok_b1 (T_X7_isLetter hs_6.1) (fun v_19 (hv_20 : PB v_19) => ?_)
    refine ok_ite (fun h_21 => ?_) (fun h_22 => ?_)
    · refine ok_b1r ?_
      unfold F_X7_splitWord_46
      refine ok_b1 (T_X7_wordNumber hs_6.1) (fun v_23 _ => ?_)
      refine ok_ite (fun h_25 => ?_) (fun h_26 => ?_)
      · unfold F_X7_splitWord_68
        refine ok_b1 (ok_tr hs_6 (T_X7_addToken hs_6.1)) (fun s_27 (hs_28 : RC true s s_27) => ?_)
        exact ok_some hs_28
      · unfold F_X7_splitWord_68
        refine ok_b1 (ok_tr hs_6 (T_X7_addToken hs_6.1)) (fun s_29 (hs_30 : RC true s s_29) => ?_)
        exact ok_some hs_30
    · extract_lets +onlyGivenNames s_31
      have hm_33 : mUp (s_31.1 55 13) < mUp (s_5.1 55 13) := by
        rw [show s_31.1 55 13 = s_5.1 55 13 + ci 1 from mu_sameP]
        exact up_t (ge_t h_8)
      have hs_32 : RC true s s_31 := (RC_mu hs_6 (by decide))
      clear_value s_31
      exact ok_some (lp_inl ⟨rfl, hs_32⟩ hm_33)
theorem T_X7_isDigit {s : mG} {a1 : Int32} (hI : IC s) : ok (F_X7_isDigit s a1) PB := by
  have hR : RC true s s := RC_refl hI
  unfold F_X7_isDigit
  refine ok_ite (fun h_1 => ?_) (fun h_2 => ?_)
  · unfold F_X7_isDigit_16
    exact ok_some pb0
  · refine ok_ite (fun h_3 => ?_) (fun h_4 => ?_)
    · unfold F_X7_isDigit_16
      exact ok_some pb0
    · exact ok_some pb1
theorem T_X7_splitNumber {s : mG} (hI : IC s) : ok (F_X7_splitNumber s) (RC true s) := by
  have hR : RC true s s := RC_refl hI
  unfold F_X7_splitNumber
  unfold F_X7_splitNumber_L7
  refine ok_whl (fun v => (s.1 55 13) = v.1 ∧ RC true s v.2.2) (fun v => mUp (v.2.2.1 55 13)) ⟨rfl, hR⟩ (fun v hv => ?_)
  obtain ⟨x_6, x_7, s_8⟩ := v
  obtain ⟨rfl, rhs_9⟩ := hv
  have hs_9 : RC true s s_8 := rhs_9
  show ok (F_X7_splitNumber_B7 (s.1 55 13) x_7 s_8) _
  unfold F_X7_splitNumber_B7
  refine ok_ite (fun h_10 => ?_) (fun h_11 => ?_)
  · refine ok_b1r ?_
    unfold F_X7_splitNumber_82
    refine ok_ite (fun h_12 => ?_) (fun h_13 => ?_)
    · unfold F_X7_splitNumber_100
      refine ok_b1 (ok_tr hs_9 (T_X7_addToken hs_9.1)) (fun s_14 (hs_15 : RC true s s_14) => ?_)
      exact ok_some hs_15
    · unfold F_X7_splitNumber_100
      refine ok_b1 (ok_tr hs_9 (T_X7_addToken hs_9.1)) (fun s_16 (hs_17 : RC true s s_16) => ?_)
      exact ok_some hs_17
  · refine ok_b1 (T_X11_cell sh64 hs_9.1) (fun v_18 _ => ?_)
    refine ok_b1 (T_X7_isDigit hs_9.1) (fun v_20 (hv_21 : PB v_20) => ?_)
    refine ok_ite (fun h_22 => ?_) (fun h_23 => ?_)
    · refine ok_b1r ?_
      unfold F_X7_splitNumber_82
      refine ok_ite (fun h_24 => ?_) (fun h_25 => ?_)
      · unfold F_X7_splitNumber_100
        refine ok_b1 (ok_tr hs_9 (T_X7_addToken hs_9.1)) (fun s_26 (hs_27 : RC true s s_26) => ?_)
        exact ok_some hs_27
      · unfold F_X7_splitNumber_100
        refine ok_b1 (ok_tr hs_9 (T_X7_addToken hs_9.1)) (fun s_28 (hs_29 : RC true s s_28) => ?_)
        exact ok_some hs_29
    · refine ok_ite (fun h_30 => ?_) (fun h_31 => ?_)
      · unfold F_X7_splitNumber_68
        extract_lets +onlyGivenNames s_32
        have hm_34 : mUp (s_32.1 55 13) < mUp (s_8.1 55 13) := by
          rw [show s_32.1 55 13 = s_8.1 55 13 + ci 1 from mu_sameP]
          exact up_t (ge_t h_11)
        have hs_33 : RC true s s_32 := (RC_mu hs_9 (by decide))
        clear_value s_32
        exact ok_some (lp_inl ⟨rfl, hs_33⟩ hm_34)
      · refine ok_b1 (T_X11_cell sh64 hs_9.1) (fun v_35 _ => ?_)
        unfold F_X7_splitNumber_68
        extract_lets +onlyGivenNames s_37
        have hm_39 : mUp (s_37.1 55 13) < mUp (s_8.1 55 13) := by
          rw [show s_37.1 55 13 = s_8.1 55 13 + ci 1 from mu_sameP]
          exact up_t (ge_t h_11)
        have hs_38 : RC true s s_37 := (RC_mu hs_9 (by decide))
        clear_value s_37
        exact ok_some (lp_inl ⟨rfl, hs_38⟩ hm_39)
theorem T_X7_splitTape {s : mG} (hI : IC s) : ok (F_X7_splitTape s) (RC true s) := by
  have hR : RC true s s := RC_refl hI
  unfold F_X7_splitTape
  refine ok_b1 (ok_tr hR (T_X10_clear isT_65 hR.1)) (fun s_1 (hs_2 : RC true s s_1) => ?_)
  extract_lets +onlyGivenNames s_3
  have hs_4 : RC true s s_3 := (RC_mu hs_2 (by decide))
  clear_value s_3
  unfold F_X7_splitTape_L14
  refine ok_whl (fun v => RC true s v.2 ∧ ¬ v.1 < 0) (fun v => mUp v.1) ⟨hs_4, nn0⟩ (fun v hv => ?_)
  obtain ⟨x_14, s_15⟩ := v
  obtain ⟨rhs_16, rhn_17⟩ := hv
  have hs_16 : RC true s s_15 := rhs_16
  have hn_17 : ¬ x_14 < 0 := rhn_17
  show ok (F_X7_splitTape_B14 x_14 s_15) _
  unfold F_X7_splitTape_B14
  refine ok_ite (fun h_18 => ?_) (fun h_19 => ?_)
  · refine ok_b1r ?_
    unfold F_X7_splitTape_94
    refine ok_b1 (ok_tr hs_16 (T_X7_addToken hs_16.1)) (fun s_20 (hs_21 : RC true s s_20) => ?_)
    exact ok_some hs_21
  · refine ok_b2 (ok_tr3 hs_16 (T_X7_skipBlanks hs_16.1)) (fun v_22 s_23 (hs_24 : PB v_22 ∧ RC true s s_23) => ?_)
    refine ok_ite (fun h_25 => ?_) (fun h_26 => ?_)
    · refine ok_b1r ?_
      unfold F_X7_splitTape_94
      refine ok_b1 (ok_tr hs_24.2 (T_X7_addToken hs_24.2.1)) (fun s_27 (hs_28 : RC true s s_27) => ?_)
      exact ok_some hs_28
    · refine ok_b1 (T_X11_cell sh64 hs_24.2.1) (fun v_29 _ => ?_)
      refine ok_b1 (T_X7_isLetter hs_24.2.1) (fun v_31 (hv_32 : PB v_31) => ?_)
      refine ok_ite (fun h_33 => ?_) (fun h_34 => ?_)
      · refine ok_b1 (T_X7_isDigit hs_24.2.1) (fun v_35 (hv_36 : PB v_35) => ?_)
        refine ok_ite (fun h_37 => ?_) (fun h_38 => ?_)
        · refine ok_b1 (ok_tr hs_24.2 (T_X7_addToken hs_24.2.1)) (fun s_39 (hs_40 : RC true s s_39) => ?_)
          extract_lets +onlyGivenNames s_41
          have hs_42 : RC true s s_41 := (RC_mu hs_40 (by decide))
          clear_value s_41
          unfold F_X7_splitTape_88
          exact ok_some (lp_inl ⟨hs_42, (up_nn hn_17 (ge_t h_19))⟩ (up_t (ge_t h_19)))
        · refine ok_b1 (ok_tr hs_24.2 (T_X7_splitNumber hs_24.2.1)) (fun s_43 (hs_44 : RC true s s_43) => ?_)
          unfold F_X7_splitTape_88
          exact ok_some (lp_inl ⟨hs_44, (up_nn hn_17 (ge_t h_19))⟩ (up_t (ge_t h_19)))
      · refine ok_b1 (ok_tr hs_24.2 (T_X7_splitWord hs_24.2.1)) (fun s_45 (hs_46 : RC true s s_45) => ?_)
        unfold F_X7_splitTape_88
        exact ok_some (lp_inl ⟨hs_46, (up_nn hn_17 (ge_t h_19))⟩ (up_t (ge_t h_19)))
theorem T_X7_refuse {a1 : Int32} {s : mG} (hI : IC s) : ok (F_X7_refuse a1 s) (fun τ => PB τ.1 ∧ RC true s τ.2) := by
  have hR : RC true s s := RC_refl hI
  unfold F_X7_refuse
  extract_lets +onlyGivenNames s_1
  have hs_2 : RC true s s_1 := (RC_mu hR (by decide))
  clear_value s_1
  extract_lets +onlyGivenNames s_3
  have hs_4 : RC true s s_3 := (RC_mu hs_2 (by decide))
  clear_value s_3
  exact ok_some ⟨pb0, hs_4⟩
theorem T_X7_pass {a1 : Int32} {s : mG} (hI : IC s) : ok (F_X7_pass a1 s) (fun τ => PB τ.1 ∧ RC true s τ.2) := by
  have hR : RC true s s := RC_refl hI
  unfold F_X7_pass
  refine ok_ite (fun h_1 => ?_) (fun h_2 => ?_)
  · refine ok_b1 (ok_tr hR (T_X7_stepOn hR.1)) (fun s_3 (hs_4 : RC true s s_3) => ?_)
    exact ok_some ⟨pb1, hs_4⟩
  · refine ok_b2 (ok_tr3 hR (T_X7_refuse hR.1)) (fun v_5 s_6 (hs_7 : PB v_5 ∧ RC true s s_6) => ?_)
    refine ok_pp hs_7.1 ?_
    exact ok_some ⟨hs_7.1, hs_7.2⟩
theorem T_X7_readHead {a2 : Nat} {a1 : Int32} {s : mG} (h_a2 : isT a2) (hI : IC s) : ok (F_X7_readHead a2 a1 s) (fun τ => PB τ.1 ∧ RC true s τ.2) := by
  have hR : RC true s s := RC_refl hI
  unfold F_X7_readHead
  refine ok_ite (fun h_1 => ?_) (fun h_2 => ?_)
  · refine ok_b2 (ok_tr2 hR (T_X10_add h_a2 hR.1)) (fun v_3 s_4 (hs_5 : RC true s s_4) => ?_)
    refine ok_ite (fun h_6 => ?_) (fun h_7 => ?_)
    · refine ok_b2 (ok_tr3 hs_5 (T_X7_refuse hs_5.1)) (fun v_8 s_9 (hs_10 : PB v_8 ∧ RC true s s_9) => ?_)
      refine ok_ite (fun h_11 => ?_) (fun h_12 => ?_)
      · exact ok_some ⟨pb0, hs_10.2⟩
      · unfold F_X7_readHead_30
        exact ok_some ⟨pb1, hs_10.2⟩
    · unfold F_X7_readHead_30
      exact ok_some ⟨pb1, hs_5⟩
  · refine ok_b2 (ok_tr3 hR (T_X7_refuse hR.1)) (fun v_13 s_14 (hs_15 : PB v_13 ∧ RC true s s_14) => ?_)
    refine ok_pp hs_15.1 ?_
    exact ok_some ⟨hs_15.1, hs_15.2⟩
/-! X11_isWithin: by hand -/
def wi (a b c : Int32) : Int32 := if a < b then ci 0 else if c < a then ci 0 else ci 1
theorem F_isWithin {s : mG} {a b c : Int32} : F_X11_isWithin s a b c = some (wi a b c) := by
  unfold F_X11_isWithin wi
  by_cases h1 : a < b
  · rw [if_pos h1, if_pos h1]; rfl
  · rw [if_neg h1, if_neg h1]
    by_cases h2 : c < a
    · rw [if_pos h2, if_pos h2]; rfl
    · rw [if_neg h2, if_neg h2]
theorem wi_b (a b c : Int32) : PB (wi a b c) := by
  unfold wi
  by_cases h1 : a < b
  · rw [if_pos h1]; exact pb0
  · rw [if_neg h1]
    by_cases h2 : c < a
    · rw [if_pos h2]; exact pb0
    · rw [if_neg h2]; exact pb1
theorem T_X11_isWithin {s : mG} {a1 a2 a3 : Int32} (hI : IC s) : ok (F_X11_isWithin s a1 a2 a3) PB := ⟨_, F_isWithin, wi_b _ _ _⟩
theorem T_X7_readNamed {a4 : Nat} {a1 : Int32} {a2 : Int32} {a3 : Int32} {a5 : Int32} {s : mG} (h_a4 : isT a4) (hI : IC s) : ok (F_X7_readNamed a4 a1 a2 a3 a5 s) (fun τ => PB τ.1 ∧ RC true s τ.2) := by
  have hR : RC true s s := RC_refl hI
  unfold F_X7_readNamed
  refine ok_b2 (ok_tr3 hR (T_X7_pass hR.1)) (fun v_1 s_2 (hs_3 : PB v_1 ∧ RC true s s_2) => ?_)
  refine ok_ite (fun h_4 => ?_) (fun h_5 => ?_)
  · exact ok_some ⟨pb0, hs_3.2⟩
  · refine ok_ite (fun h_6 => ?_) (fun h_7 => ?_)
    · refine ok_b1 (T_X11_isWithin hs_3.2.1) (fun v_8 (hv_9 : PB v_8) => ?_)
      refine ok_ite (fun h_10 => ?_) (fun h_11 => ?_)
      · refine ok_b2 (ok_tr3 hs_3.2 (T_X7_refuse hs_3.2.1)) (fun v_12 s_13 (hs_14 : PB v_12 ∧ RC true s s_13) => ?_)
        refine ok_pp hs_14.1 ?_
        exact ok_some ⟨hs_14.1, hs_14.2⟩
      · refine ok_b1 (ok_tr hs_3.2 (T_X10_put h_a4 hs_3.2.1)) (fun s_15 (hs_16 : RC true s s_15) => ?_)
        refine ok_b1 (ok_tr hs_16 (T_X7_stepOn hs_16.1)) (fun s_17 (hs_18 : RC true s s_17) => ?_)
        exact ok_some ⟨pb1, hs_18⟩
    · refine ok_b2 (ok_tr3 hs_3.2 (T_X7_refuse hs_3.2.1)) (fun v_19 s_20 (hs_21 : PB v_19 ∧ RC true s s_20) => ?_)
      refine ok_pp hs_21.1 ?_
      exact ok_some ⟨hs_21.1, hs_21.2⟩
theorem T_X7_readSign {s : mG} (hI : IC s) : ok (F_X7_readSign s) (fun τ => PB τ.1 ∧ RC true s τ.2) := by
  have hR : RC true s s := RC_refl hI
  unfold F_X7_readSign
  refine ok_b2 (ok_tr3 hR (T_X7_readHead isT_60 hR.1)) (fun v_1 s_2 (hs_3 : PB v_1 ∧ RC true s s_2) => ?_)
  refine ok_ite (fun h_4 => ?_) (fun h_5 => ?_)
  · exact ok_some ⟨pb0, hs_3.2⟩
  · refine ok_b1 (ok_tr hs_3.2 (T_X7_stepOn hs_3.2.1)) (fun s_6 (hs_7 : RC true s s_6) => ?_)
    refine ok_b2 (ok_tr3 hs_7 (T_X7_readNamed isT_60 hs_7.1)) (fun v_8 s_9 (hs_10 : PB v_8 ∧ RC true s s_9) => ?_)
    refine ok_ite (fun h_11 => ?_) (fun h_12 => ?_)
    · unfold F_X7_readSign_71
      exact ok_some ⟨pb0, hs_10.2⟩
    · refine ok_b2 (ok_tr3 hs_10.2 (T_X7_readNamed isT_60 hs_10.2.1)) (fun v_13 s_14 (hs_15 : PB v_13 ∧ RC true s s_14) => ?_)
      refine ok_ite (fun h_16 => ?_) (fun h_17 => ?_)
      · unfold F_X7_readSign_71
        exact ok_some ⟨pb0, hs_15.2⟩
      · refine ok_b2 (ok_tr3 hs_15.2 (T_X7_pass hs_15.2.1)) (fun v_18 s_19 (hs_20 : PB v_18 ∧ RC true s s_19) => ?_)
        refine ok_ite (fun h_21 => ?_) (fun h_22 => ?_)
        · unfold F_X7_readSign_71
          exact ok_some ⟨pb0, hs_20.2⟩
        · exact ok_some ⟨pb1, hs_20.2⟩
theorem T_X7_readShift {s : mG} (hI : IC s) : ok (F_X7_readShift s) (fun τ => PB τ.1 ∧ RC true s τ.2) := by
  have hR : RC true s s := RC_refl hI
  unfold F_X7_readShift
  refine ok_b2 (ok_tr3 hR (T_X7_readHead isT_62 hR.1)) (fun v_1 s_2 (hs_3 : PB v_1 ∧ RC true s s_2) => ?_)
  refine ok_ite (fun h_4 => ?_) (fun h_5 => ?_)
  · unfold F_X7_readShift_97
    exact ok_some ⟨pb0, hs_3.2⟩
  · refine ok_b2 (ok_tr3 hs_3.2 (T_X7_readNamed isT_62 hs_3.2.1)) (fun v_6 s_7 (hs_8 : PB v_6 ∧ RC true s s_7) => ?_)
    refine ok_ite (fun h_9 => ?_) (fun h_10 => ?_)
    · unfold F_X7_readShift_97
      exact ok_some ⟨pb0, hs_8.2⟩
    · refine ok_b2 (ok_tr3 hs_8.2 (T_X7_readNamed isT_62 hs_8.2.1)) (fun v_11 s_12 (hs_13 : PB v_11 ∧ RC true s s_12) => ?_)
      refine ok_ite (fun h_14 => ?_) (fun h_15 => ?_)
      · unfold F_X7_readShift_97
        exact ok_some ⟨pb0, hs_13.2⟩
      · refine ok_b2 (ok_tr3 hs_13.2 (T_X7_readNamed isT_62 hs_13.2.1)) (fun v_16 s_17 (hs_18 : PB v_16 ∧ RC true s s_17) => ?_)
        refine ok_ite (fun h_19 => ?_) (fun h_20 => ?_)
        · unfold F_X7_readShift_97
          exact ok_some ⟨pb0, hs_18.2⟩
        · refine ok_b2 (ok_tr3 hs_18.2 (T_X7_readNamed isT_62 hs_18.2.1)) (fun v_21 s_22 (hs_23 : PB v_21 ∧ RC true s s_22) => ?_)
          refine ok_ite (fun h_24 => ?_) (fun h_25 => ?_)
          · unfold F_X7_readShift_97
            exact ok_some ⟨pb0, hs_23.2⟩
          · refine ok_b2 (ok_tr3 hs_23.2 (T_X7_pass hs_23.2.1)) (fun v_26 s_27 (hs_28 : PB v_26 ∧ RC true s s_27) => ?_)
            refine ok_ite (fun h_29 => ?_) (fun h_30 => ?_)
            · unfold F_X7_readShift_97
              exact ok_some ⟨pb0, hs_28.2⟩
            · exact ok_some ⟨pb1, hs_28.2⟩
theorem T_X7_isReckoning {s : mG} {a1 : Int32} (hI : IC s) : ok (F_X7_isReckoning s a1) PB := by
  have hR : RC true s s := RC_refl hI
  unfold F_X7_isReckoning
  refine ok_ite (fun h_1 => ?_) (fun h_2 => ?_)
  · unfold F_X7_isReckoning_24
    exact ok_some pb1
  · refine ok_ite (fun h_3 => ?_) (fun h_4 => ?_)
    · unfold F_X7_isReckoning_24
      exact ok_some pb1
    · refine ok_ite (fun h_5 => ?_) (fun h_6 => ?_)
      · unfold F_X7_isReckoning_24
        exact ok_some pb1
      · refine ok_ite (fun h_7 => ?_) (fun h_8 => ?_)
        · unfold F_X7_isReckoning_24
          exact ok_some pb1
        · exact ok_some pb0
theorem T_X10_push {t : Nat} {a1 : Int32} {s : mG} (h_t : isT t) (hI : IC s) : ok (F_X10_push t a1 s) (RC true s) := by
  have hR : RC true s s := RC_refl hI
  unfold F_X10_push
  refine ok_ite (fun h_1 => ?_) (fun h_2 => ?_)
  · exact ok_some hR
  · extract_lets +onlyGivenNames s_3
    have hs_4 : RC true s s_3 := (RC_rows hR h_t (rows_add hI (t_nle h_2)))
    clear_value s_3
    refine ok_b1 (ok_tr hs_4 (T_X10_put h_t hs_4.1)) (fun s_5 (hs_6 : RC true s s_5) => ?_)
    exact ok_some hs_6
theorem T_X7_emitIfAny {a1 : Int32} {s : mG} (hI : IC s) : ok (F_X7_emitIfAny a1 s) (RC true s) := by
  have hR : RC true s s := RC_refl hI
  unfold F_X7_emitIfAny
  refine ok_ite (fun h_1 => ?_) (fun h_2 => ?_)
  · exact ok_some hR
  · refine ok_b1 (ok_tr hR (T_X10_push isT_58 hR.1)) (fun s_3 (hs_4 : RC true s s_3) => ?_)
    exact ok_some hs_4
theorem T_X7_readUnit {s : mG} (hI : IC s) : ok (F_X7_readUnit s) (fun τ => PB τ.1 ∧ RC true s τ.2) := by
  have hR : RC true s s := RC_refl hI
  unfold F_X7_readUnit
  extract_lets +onlyGivenNames v_1
  clear_value v_1
  refine ok_ite (fun h_2 => ?_) (fun h_3 => ?_)
  · refine ok_b1 (ok_tr hR (T_X10_push isT_58 hR.1)) (fun s_4 (hs_5 : RC true s s_4) => ?_)
    unfold F_X7_readUnit_68
    refine ok_b1 (ok_tr hs_5 (T_X7_stepOn hs_5.1)) (fun s_6 (hs_7 : RC true s s_6) => ?_)
    exact ok_some ⟨pb1, hs_7⟩
  · refine ok_ite (fun h_8 => ?_) (fun h_9 => ?_)
    · unfold F_X7_readUnit_62
      refine ok_b2 (ok_tr3 hR (T_X7_refuse hR.1)) (fun v_10 s_11 (hs_12 : PB v_10 ∧ RC true s s_11) => ?_)
      refine ok_pp hs_12.1 ?_
      exact ok_some ⟨hs_12.1, hs_12.2⟩
    · refine ok_ite (fun h_13 => ?_) (fun h_14 => ?_)
      · unfold F_X7_readUnit_62
        refine ok_b2 (ok_tr3 hR (T_X7_refuse hR.1)) (fun v_15 s_16 (hs_17 : PB v_15 ∧ RC true s s_16) => ?_)
        refine ok_pp hs_17.1 ?_
        exact ok_some ⟨hs_17.1, hs_17.2⟩
      · refine ok_b1 (ok_tr hR (T_X10_push isT_58 hR.1)) (fun s_18 (hs_19 : RC true s s_18) => ?_)
        unfold F_X7_readUnit_68
        refine ok_b1 (ok_tr hs_19 (T_X7_stepOn hs_19.1)) (fun s_20 (hs_21 : RC true s s_20) => ?_)
        exact ok_some ⟨pb1, hs_21⟩
theorem T_X7_readPart {s : mG} (hI : IC s) : ok (F_X7_readPart s) (fun τ => PB τ.1 ∧ RC true s τ.2) := by
  have hR : RC true s s := RC_refl hI
  unfold F_X7_readPart
  refine ok_ite (fun h_1 => ?_) (fun h_2 => ?_)
  · refine ok_ite (fun h_3 => ?_) (fun h_4 => ?_)
    · refine ok_b2 (ok_tr3 hR (T_X7_refuse hR.1)) (fun v_5 s_6 (hs_7 : PB v_5 ∧ RC true s s_6) => ?_)
      refine ok_pp hs_7.1 ?_
      exact ok_some ⟨hs_7.1, hs_7.2⟩
    · refine ok_b1 (ok_tr hR (T_X10_push isT_58 hR.1)) (fun s_8 (hs_9 : RC true s s_8) => ?_)
      refine ok_b1 (ok_tr hs_9 (T_X7_stepOn hs_9.1)) (fun s_10 (hs_11 : RC true s s_10) => ?_)
      exact ok_some ⟨pb1, hs_11⟩
  · refine ok_b2 (ok_tr3 hR (T_X7_refuse hR.1)) (fun v_12 s_13 (hs_14 : PB v_12 ∧ RC true s s_13) => ?_)
    refine ok_pp hs_14.1 ?_
    exact ok_some ⟨hs_14.1, hs_14.2⟩
theorem T_X7_readSum {s : mG} (hI : IC s) : ok (F_X7_readSum s) (fun τ => PB τ.1 ∧ RC true s τ.2) := by
  have hR : RC true s s := RC_refl hI
  unfold F_X7_readSum
  refine ok_b2 (ok_tr3 hR (T_X7_readUnit hR.1)) (fun v_1 s_2 (hs_3 : PB v_1 ∧ RC true s s_2) => ?_)
  refine ok_ite (fun h_4 => ?_) (fun h_5 => ?_)
  · exact ok_some ⟨pb0, hs_3.2⟩
  · unfold F_X7_readSum_L13
    refine ok_whl (fun v => RC true s v.2.2 ∧ ¬ v.2.1 < 0) (fun v => mUp v.2.1) ⟨hs_3.2, nn0⟩ (fun v hv => ?_)
    obtain ⟨x_50, x_51, s_52⟩ := v
    obtain ⟨rhs_53, rhn_54⟩ := hv
    have hs_53 : RC true s s_52 := rhs_53
    have hn_54 : ¬ x_51 < 0 := rhn_54
    show ok (F_X7_readSum_B13 x_50 x_51 s_52) _
    unfold F_X7_readSum_B13
    refine ok_ite (fun h_55 => ?_) (fun h_56 => ?_)
    · refine ok_b1r ?_
      unfold F_X7_readSum_114
      refine ok_b1 (ok_tr hs_53 (T_X7_emitIfAny hs_53.1)) (fun s_57 (hs_58 : RC true s s_57) => ?_)
      exact ok_some ⟨pb1, hs_58⟩
    · refine ok_b1 (T_X7_isReckoning hs_53.1) (fun v_59 (hv_60 : PB v_59) => ?_)
      refine ok_ite (fun h_61 => ?_) (fun h_62 => ?_)
      · refine ok_b1r ?_
        unfold F_X7_readSum_114
        refine ok_b1 (ok_tr hs_53 (T_X7_emitIfAny hs_53.1)) (fun s_63 (hs_64 : RC true s s_63) => ?_)
        exact ok_some ⟨pb1, hs_64⟩
      · refine ok_b1 (ok_tr hs_53 (T_X7_stepOn hs_53.1)) (fun s_65 (hs_66 : RC true s s_65) => ?_)
        refine ok_ite (fun h_67 => ?_) (fun h_68 => ?_)
        · unfold F_X7_readSum_51
          refine ok_b1 (ok_tr hs_66 (T_X7_emitIfAny hs_66.1)) (fun s_69 (hs_70 : RC true s s_69) => ?_)
          refine ok_ite (fun h_71 => ?_) (fun h_72 => ?_)
          · unfold F_X7_readSum_67
            unfold F_X7_readSum_68
            refine ok_ite (fun h_73 => ?_) (fun h_74 => ?_)
            · refine ok_b2 (ok_tr3 hs_70 (T_X7_readPart hs_70.1)) (fun v_75 s_76 (hs_77 : PB v_75 ∧ RC true s s_76) => ?_)
              refine ok_ite (fun h_78 => ?_) (fun h_79 => ?_)
              · refine ok_b1r ?_
                unfold F_X7_readSum_91
                exact ok_some ⟨pb0, hs_77.2⟩
              · unfold F_X7_readSum_93
                refine ok_ite (fun h_80 => ?_) (fun h_81 => ?_)
                · unfold F_X7_readSum_105
                  refine ok_b1 (ok_tr hs_77.2 (T_X7_emitIfAny hs_77.2.1)) (fun s_82 (hs_83 : RC true s s_82) => ?_)
                  exact ok_some (lp_inl ⟨hs_83, (up_nn hn_54 (ge_t h_56))⟩ (up_t (ge_t h_56)))
                · unfold F_X7_readSum_105
                  refine ok_b1 (ok_tr hs_77.2 (T_X7_emitIfAny hs_77.2.1)) (fun s_84 (hs_85 : RC true s s_84) => ?_)
                  exact ok_some (lp_inl ⟨hs_85, (up_nn hn_54 (ge_t h_56))⟩ (up_t (ge_t h_56)))
            · refine ok_b2 (ok_tr3 hs_70 (T_X7_readUnit hs_70.1)) (fun v_86 s_87 (hs_88 : PB v_86 ∧ RC true s s_87) => ?_)
              refine ok_ite (fun h_89 => ?_) (fun h_90 => ?_)
              · refine ok_b1r ?_
                unfold F_X7_readSum_91
                exact ok_some ⟨pb0, hs_88.2⟩
              · unfold F_X7_readSum_93
                refine ok_ite (fun h_91 => ?_) (fun h_92 => ?_)
                · unfold F_X7_readSum_105
                  refine ok_b1 (ok_tr hs_88.2 (T_X7_emitIfAny hs_88.2.1)) (fun s_93 (hs_94 : RC true s s_93) => ?_)
                  exact ok_some (lp_inl ⟨hs_94, (up_nn hn_54 (ge_t h_56))⟩ (up_t (ge_t h_56)))
                · unfold F_X7_readSum_105
                  refine ok_b1 (ok_tr hs_88.2 (T_X7_emitIfAny hs_88.2.1)) (fun s_95 (hs_96 : RC true s s_95) => ?_)
                  exact ok_some (lp_inl ⟨hs_96, (up_nn hn_54 (ge_t h_56))⟩ (up_t (ge_t h_56)))
          · unfold F_X7_readSum_67
            unfold F_X7_readSum_68
            refine ok_ite (fun h_97 => ?_) (fun h_98 => ?_)
            · refine ok_b2 (ok_tr3 hs_70 (T_X7_readPart hs_70.1)) (fun v_99 s_100 (hs_101 : PB v_99 ∧ RC true s s_100) => ?_)
              refine ok_ite (fun h_102 => ?_) (fun h_103 => ?_)
              · refine ok_b1r ?_
                unfold F_X7_readSum_91
                exact ok_some ⟨pb0, hs_101.2⟩
              · unfold F_X7_readSum_93
                refine ok_ite (fun h_104 => ?_) (fun h_105 => ?_)
                · unfold F_X7_readSum_105
                  refine ok_b1 (ok_tr hs_101.2 (T_X7_emitIfAny hs_101.2.1)) (fun s_106 (hs_107 : RC true s s_106) => ?_)
                  exact ok_some (lp_inl ⟨hs_107, (up_nn hn_54 (ge_t h_56))⟩ (up_t (ge_t h_56)))
                · unfold F_X7_readSum_105
                  refine ok_b1 (ok_tr hs_101.2 (T_X7_emitIfAny hs_101.2.1)) (fun s_108 (hs_109 : RC true s s_108) => ?_)
                  exact ok_some (lp_inl ⟨hs_109, (up_nn hn_54 (ge_t h_56))⟩ (up_t (ge_t h_56)))
            · refine ok_b2 (ok_tr3 hs_70 (T_X7_readUnit hs_70.1)) (fun v_110 s_111 (hs_112 : PB v_110 ∧ RC true s s_111) => ?_)
              refine ok_ite (fun h_113 => ?_) (fun h_114 => ?_)
              · refine ok_b1r ?_
                unfold F_X7_readSum_91
                exact ok_some ⟨pb0, hs_112.2⟩
              · unfold F_X7_readSum_93
                refine ok_ite (fun h_115 => ?_) (fun h_116 => ?_)
                · unfold F_X7_readSum_105
                  refine ok_b1 (ok_tr hs_112.2 (T_X7_emitIfAny hs_112.2.1)) (fun s_117 (hs_118 : RC true s s_117) => ?_)
                  exact ok_some (lp_inl ⟨hs_118, (up_nn hn_54 (ge_t h_56))⟩ (up_t (ge_t h_56)))
                · unfold F_X7_readSum_105
                  refine ok_b1 (ok_tr hs_112.2 (T_X7_emitIfAny hs_112.2.1)) (fun s_119 (hs_120 : RC true s s_119) => ?_)
                  exact ok_some (lp_inl ⟨hs_120, (up_nn hn_54 (ge_t h_56))⟩ (up_t (ge_t h_56)))
        · refine ok_ite (fun h_121 => ?_) (fun h_122 => ?_)
          · unfold F_X7_readSum_51
            refine ok_b1 (ok_tr hs_66 (T_X7_emitIfAny hs_66.1)) (fun s_123 (hs_124 : RC true s s_123) => ?_)
            refine ok_ite (fun h_125 => ?_) (fun h_126 => ?_)
            · unfold F_X7_readSum_67
              unfold F_X7_readSum_68
              refine ok_ite (fun h_127 => ?_) (fun h_128 => ?_)
              · refine ok_b2 (ok_tr3 hs_124 (T_X7_readPart hs_124.1)) (fun v_129 s_130 (hs_131 : PB v_129 ∧ RC true s s_130) => ?_)
                refine ok_ite (fun h_132 => ?_) (fun h_133 => ?_)
                · refine ok_b1r ?_
                  unfold F_X7_readSum_91
                  exact ok_some ⟨pb0, hs_131.2⟩
                · unfold F_X7_readSum_93
                  refine ok_ite (fun h_134 => ?_) (fun h_135 => ?_)
                  · unfold F_X7_readSum_105
                    refine ok_b1 (ok_tr hs_131.2 (T_X7_emitIfAny hs_131.2.1)) (fun s_136 (hs_137 : RC true s s_136) => ?_)
                    exact ok_some (lp_inl ⟨hs_137, (up_nn hn_54 (ge_t h_56))⟩ (up_t (ge_t h_56)))
                  · unfold F_X7_readSum_105
                    refine ok_b1 (ok_tr hs_131.2 (T_X7_emitIfAny hs_131.2.1)) (fun s_138 (hs_139 : RC true s s_138) => ?_)
                    exact ok_some (lp_inl ⟨hs_139, (up_nn hn_54 (ge_t h_56))⟩ (up_t (ge_t h_56)))
              · refine ok_b2 (ok_tr3 hs_124 (T_X7_readUnit hs_124.1)) (fun v_140 s_141 (hs_142 : PB v_140 ∧ RC true s s_141) => ?_)
                refine ok_ite (fun h_143 => ?_) (fun h_144 => ?_)
                · refine ok_b1r ?_
                  unfold F_X7_readSum_91
                  exact ok_some ⟨pb0, hs_142.2⟩
                · unfold F_X7_readSum_93
                  refine ok_ite (fun h_145 => ?_) (fun h_146 => ?_)
                  · unfold F_X7_readSum_105
                    refine ok_b1 (ok_tr hs_142.2 (T_X7_emitIfAny hs_142.2.1)) (fun s_147 (hs_148 : RC true s s_147) => ?_)
                    exact ok_some (lp_inl ⟨hs_148, (up_nn hn_54 (ge_t h_56))⟩ (up_t (ge_t h_56)))
                  · unfold F_X7_readSum_105
                    refine ok_b1 (ok_tr hs_142.2 (T_X7_emitIfAny hs_142.2.1)) (fun s_149 (hs_150 : RC true s s_149) => ?_)
                    exact ok_some (lp_inl ⟨hs_150, (up_nn hn_54 (ge_t h_56))⟩ (up_t (ge_t h_56)))
            · unfold F_X7_readSum_67
              unfold F_X7_readSum_68
              refine ok_ite (fun h_151 => ?_) (fun h_152 => ?_)
              · refine ok_b2 (ok_tr3 hs_124 (T_X7_readPart hs_124.1)) (fun v_153 s_154 (hs_155 : PB v_153 ∧ RC true s s_154) => ?_)
                refine ok_ite (fun h_156 => ?_) (fun h_157 => ?_)
                · refine ok_b1r ?_
                  unfold F_X7_readSum_91
                  exact ok_some ⟨pb0, hs_155.2⟩
                · unfold F_X7_readSum_93
                  refine ok_ite (fun h_158 => ?_) (fun h_159 => ?_)
                  · unfold F_X7_readSum_105
                    refine ok_b1 (ok_tr hs_155.2 (T_X7_emitIfAny hs_155.2.1)) (fun s_160 (hs_161 : RC true s s_160) => ?_)
                    exact ok_some (lp_inl ⟨hs_161, (up_nn hn_54 (ge_t h_56))⟩ (up_t (ge_t h_56)))
                  · unfold F_X7_readSum_105
                    refine ok_b1 (ok_tr hs_155.2 (T_X7_emitIfAny hs_155.2.1)) (fun s_162 (hs_163 : RC true s s_162) => ?_)
                    exact ok_some (lp_inl ⟨hs_163, (up_nn hn_54 (ge_t h_56))⟩ (up_t (ge_t h_56)))
              · refine ok_b2 (ok_tr3 hs_124 (T_X7_readUnit hs_124.1)) (fun v_164 s_165 (hs_166 : PB v_164 ∧ RC true s s_165) => ?_)
                refine ok_ite (fun h_167 => ?_) (fun h_168 => ?_)
                · refine ok_b1r ?_
                  unfold F_X7_readSum_91
                  exact ok_some ⟨pb0, hs_166.2⟩
                · unfold F_X7_readSum_93
                  refine ok_ite (fun h_169 => ?_) (fun h_170 => ?_)
                  · unfold F_X7_readSum_105
                    refine ok_b1 (ok_tr hs_166.2 (T_X7_emitIfAny hs_166.2.1)) (fun s_171 (hs_172 : RC true s s_171) => ?_)
                    exact ok_some (lp_inl ⟨hs_172, (up_nn hn_54 (ge_t h_56))⟩ (up_t (ge_t h_56)))
                  · unfold F_X7_readSum_105
                    refine ok_b1 (ok_tr hs_166.2 (T_X7_emitIfAny hs_166.2.1)) (fun s_173 (hs_174 : RC true s s_173) => ?_)
                    exact ok_some (lp_inl ⟨hs_174, (up_nn hn_54 (ge_t h_56))⟩ (up_t (ge_t h_56)))
          · unfold F_X7_readSum_68
            refine ok_ite (fun h_175 => ?_) (fun h_176 => ?_)
            · refine ok_b2 (ok_tr3 hs_66 (T_X7_readPart hs_66.1)) (fun v_177 s_178 (hs_179 : PB v_177 ∧ RC true s s_178) => ?_)
              refine ok_ite (fun h_180 => ?_) (fun h_181 => ?_)
              · refine ok_b1r ?_
                unfold F_X7_readSum_91
                exact ok_some ⟨pb0, hs_179.2⟩
              · unfold F_X7_readSum_93
                refine ok_ite (fun h_182 => ?_) (fun h_183 => ?_)
                · unfold F_X7_readSum_105
                  refine ok_b1 (ok_tr hs_179.2 (T_X7_emitIfAny hs_179.2.1)) (fun s_184 (hs_185 : RC true s s_184) => ?_)
                  exact ok_some (lp_inl ⟨hs_185, (up_nn hn_54 (ge_t h_56))⟩ (up_t (ge_t h_56)))
                · unfold F_X7_readSum_105
                  refine ok_b1 (ok_tr hs_179.2 (T_X7_emitIfAny hs_179.2.1)) (fun s_186 (hs_187 : RC true s s_186) => ?_)
                  exact ok_some (lp_inl ⟨hs_187, (up_nn hn_54 (ge_t h_56))⟩ (up_t (ge_t h_56)))
            · refine ok_b2 (ok_tr3 hs_66 (T_X7_readUnit hs_66.1)) (fun v_188 s_189 (hs_190 : PB v_188 ∧ RC true s s_189) => ?_)
              refine ok_ite (fun h_191 => ?_) (fun h_192 => ?_)
              · refine ok_b1r ?_
                unfold F_X7_readSum_91
                exact ok_some ⟨pb0, hs_190.2⟩
              · unfold F_X7_readSum_93
                refine ok_ite (fun h_193 => ?_) (fun h_194 => ?_)
                · unfold F_X7_readSum_105
                  refine ok_b1 (ok_tr hs_190.2 (T_X7_emitIfAny hs_190.2.1)) (fun s_195 (hs_196 : RC true s s_195) => ?_)
                  exact ok_some (lp_inl ⟨hs_196, (up_nn hn_54 (ge_t h_56))⟩ (up_t (ge_t h_56)))
                · unfold F_X7_readSum_105
                  refine ok_b1 (ok_tr hs_190.2 (T_X7_emitIfAny hs_190.2.1)) (fun s_197 (hs_198 : RC true s s_197) => ?_)
                  exact ok_some (lp_inl ⟨hs_198, (up_nn hn_54 (ge_t h_56))⟩ (up_t (ge_t h_56)))
theorem T_X7_hold {a1 : Int32} {s : mG} (hI : IC s) : ok (F_X7_hold a1 s) (RC true s) := by
  have hR : RC true s s := RC_refl hI
  unfold F_X7_hold
  refine ok_b1 (ok_tr hR (T_X11_put sh67 (by decide) hR.1)) (fun s_1 (hs_2 : RC true s s_1) => ?_)
  extract_lets +onlyGivenNames s_3
  have hs_4 : RC true s s_3 := (RC_mu hs_2 (by decide))
  clear_value s_3
  exact ok_some hs_4
theorem T_X7_readOpenings {s : mG} (hI : IC s) : ok (F_X7_readOpenings s) (fun τ => PB τ.1 ∧ RC true s τ.2) := by
  have hR : RC true s s := RC_refl hI
  unfold F_X7_readOpenings
  unfold F_X7_readOpenings_L2
  refine ok_whl (fun v => RC true s v.2 ∧ ¬ v.1 < 0) (fun v => mUp v.1) ⟨hR, nn0⟩ (fun v hv => ?_)
  obtain ⟨x_11, s_12⟩ := v
  obtain ⟨rhs_13, rhn_14⟩ := hv
  have hs_13 : RC true s s_12 := rhs_13
  have hn_14 : ¬ x_11 < 0 := rhn_14
  show ok (F_X7_readOpenings_B2 x_11 s_12) _
  unfold F_X7_readOpenings_B2
  refine ok_ite (fun h_15 => ?_) (fun h_16 => ?_)
  · refine ok_b1r ?_
    unfold F_X7_readOpenings_71
    exact ok_some ⟨pb1, hs_13⟩
  · refine ok_ite (fun h_17 => ?_) (fun h_18 => ?_)
    · unfold F_X7_readOpenings_28
      refine ok_ite (fun h_19 => ?_) (fun h_20 => ?_)
      · refine ok_b1 (ok_tr hs_13 (T_X7_hold hs_13.1)) (fun s_21 (hs_22 : RC true s s_21) => ?_)
        extract_lets +onlyGivenNames s_23
        have hs_24 : RC true s s_23 := (RC_mu hs_22 (by decide))
        clear_value s_23
        refine ok_b1 (ok_tr hs_24 (T_X7_stepOn hs_24.1)) (fun s_25 (hs_26 : RC true s s_25) => ?_)
        exact ok_some (lp_inl ⟨hs_26, (up_nn hn_14 (ge_t h_16))⟩ (up_t (ge_t h_16)))
      · refine ok_b2 (ok_tr3 hs_13 (T_X7_refuse hs_13.1)) (fun v_27 s_28 (hs_29 : PB v_27 ∧ RC true s s_28) => ?_)
        refine ok_pp hs_29.1 ?_
        exact ok_some (lp_inr (⟨hs_29.1, hs_29.2⟩))
    · refine ok_ite (fun h_30 => ?_) (fun h_31 => ?_)
      · unfold F_X7_readOpenings_28
        refine ok_ite (fun h_32 => ?_) (fun h_33 => ?_)
        · refine ok_b1 (ok_tr hs_13 (T_X7_hold hs_13.1)) (fun s_34 (hs_35 : RC true s s_34) => ?_)
          extract_lets +onlyGivenNames s_36
          have hs_37 : RC true s s_36 := (RC_mu hs_35 (by decide))
          clear_value s_36
          refine ok_b1 (ok_tr hs_37 (T_X7_stepOn hs_37.1)) (fun s_38 (hs_39 : RC true s s_38) => ?_)
          exact ok_some (lp_inl ⟨hs_39, (up_nn hn_14 (ge_t h_16))⟩ (up_t (ge_t h_16)))
        · refine ok_b2 (ok_tr3 hs_13 (T_X7_refuse hs_13.1)) (fun v_40 s_41 (hs_42 : PB v_40 ∧ RC true s s_41) => ?_)
          refine ok_pp hs_42.1 ?_
          exact ok_some (lp_inr (⟨hs_42.1, hs_42.2⟩))
      · refine ok_b1r ?_
        unfold F_X7_readOpenings_71
        exact ok_some ⟨pb1, hs_13⟩
theorem T_X7_stepOfComparison {s : mG} (hI : IC s) : ok (F_X7_stepOfComparison s) PT := by
  have hR : RC true s s := RC_refl hI
  unfold F_X7_stepOfComparison
  refine ok_ite (fun h_1 => ?_) (fun h_2 => ?_)
  · exact ok_some trivial
  · refine ok_ite (fun h_3 => ?_) (fun h_4 => ?_)
    · exact ok_some trivial
    · refine ok_ite (fun h_5 => ?_) (fun h_6 => ?_)
      · exact ok_some trivial
      · exact ok_some trivial
theorem T_X7_lastWaiting {s : mG} (hI : IC s) : ok (F_X7_lastWaiting s) PT := by
  have hR : RC true s s := RC_refl hI
  unfold F_X7_lastWaiting
  refine ok_ite (fun h_1 => ?_) (fun h_2 => ?_)
  · exact ok_some trivial
  · refine ok_b1 (T_X11_cell sh67 hR.1) (fun v_3 _ => ?_)
    exact ok_some trivial
theorem T_X7_closeNots {s : mG} (hI : IC s) : ok (F_X7_closeNots s) (RC true s) := by
  have hR : RC true s s := RC_refl hI
  unfold F_X7_closeNots
  unfold F_X7_closeNots_L2
  refine ok_whl (fun v => RC true s v.2 ∧ ¬ v.1 < 0) (fun v => mUp v.1) ⟨hR, nn0⟩ (fun v hv => ?_)
  obtain ⟨x_5, s_6⟩ := v
  obtain ⟨rhs_7, rhn_8⟩ := hv
  have hs_7 : RC true s s_6 := rhs_7
  have hn_8 : ¬ x_5 < 0 := rhn_8
  show ok (F_X7_closeNots_B2 x_5 s_6) _
  unfold F_X7_closeNots_B2
  refine ok_ite (fun h_9 => ?_) (fun h_10 => ?_)
  · exact ok_some (lp_inr (hs_7))
  · refine ok_b1 (T_X7_lastWaiting hs_7.1) (fun v_11 _ => ?_)
    refine ok_ite (fun h_13 => ?_) (fun h_14 => ?_)
    · refine ok_b1 (ok_tr hs_7 (T_X10_push isT_58 hs_7.1)) (fun s_15 (hs_16 : RC true s s_15) => ?_)
      extract_lets +onlyGivenNames s_17
      have hs_18 : RC true s s_17 := (RC_mu hs_16 (by decide))
      clear_value s_17
      extract_lets +onlyGivenNames s_19
      have hs_20 : RC true s s_19 := (RC_mu hs_18 (by decide))
      clear_value s_19
      exact ok_some (lp_inl ⟨hs_20, (up_nn hn_8 (ge_t h_10))⟩ (up_t (ge_t h_10)))
    · exact ok_some (lp_inr (hs_7))
theorem T_X7_joinWhatWaits {a1 : Int32} {s : mG} (hI : IC s) : ok (F_X7_joinWhatWaits a1 s) (RC true s) := by
  have hR : RC true s s := RC_refl hI
  unfold F_X7_joinWhatWaits
  unfold F_X7_joinWhatWaits_L2
  refine ok_whl (fun v => a1 = v.1 ∧ RC true s v.2.2 ∧ ¬ v.2.1 < 0) (fun v => mUp v.2.1) ⟨rfl, hR, nn0⟩ (fun v hv => ?_)
  obtain ⟨x_10, x_11, s_12⟩ := v
  obtain ⟨rfl, rhs_13, rhn_14⟩ := hv
  have hs_13 : RC true s s_12 := rhs_13
  have hn_14 : ¬ x_11 < 0 := rhn_14
  show ok (F_X7_joinWhatWaits_B2 a1 x_11 s_12) _
  unfold F_X7_joinWhatWaits_B2
  refine ok_ite (fun h_15 => ?_) (fun h_16 => ?_)
  · exact ok_some (lp_inr (hs_13))
  · refine ok_b1 (T_X7_lastWaiting hs_13.1) (fun v_17 _ => ?_)
    refine ok_ite (fun h_19 => ?_) (fun h_20 => ?_)
    · unfold F_X7_joinWhatWaits_32
      refine ok_ite (fun h_21 => ?_) (fun h_22 => ?_)
      · unfold F_X7_joinWhatWaits_50
        refine ok_b1 (ok_tr hs_13 (T_X10_push isT_58 hs_13.1)) (fun s_23 (hs_24 : RC true s s_23) => ?_)
        extract_lets +onlyGivenNames s_25
        have hs_26 : RC true s s_25 := (RC_mu hs_24 (by decide))
        clear_value s_25
        exact ok_some (lp_inl ⟨rfl, hs_26, (up_nn hn_14 (ge_t h_16))⟩ (up_t (ge_t h_16)))
      · unfold F_X7_joinWhatWaits_50
        refine ok_b1 (ok_tr hs_13 (T_X10_push isT_58 hs_13.1)) (fun s_27 (hs_28 : RC true s s_27) => ?_)
        extract_lets +onlyGivenNames s_29
        have hs_30 : RC true s s_29 := (RC_mu hs_28 (by decide))
        clear_value s_29
        exact ok_some (lp_inl ⟨rfl, hs_30, (up_nn hn_14 (ge_t h_16))⟩ (up_t (ge_t h_16)))
    · refine ok_ite (fun h_31 => ?_) (fun h_32 => ?_)
      · refine ok_ite (fun h_33 => ?_) (fun h_34 => ?_)
        · unfold F_X7_joinWhatWaits_32
          refine ok_ite (fun h_35 => ?_) (fun h_36 => ?_)
          · unfold F_X7_joinWhatWaits_50
            refine ok_b1 (ok_tr hs_13 (T_X10_push isT_58 hs_13.1)) (fun s_37 (hs_38 : RC true s s_37) => ?_)
            extract_lets +onlyGivenNames s_39
            have hs_40 : RC true s s_39 := (RC_mu hs_38 (by decide))
            clear_value s_39
            exact ok_some (lp_inl ⟨rfl, hs_40, (up_nn hn_14 (ge_t h_16))⟩ (up_t (ge_t h_16)))
          · unfold F_X7_joinWhatWaits_50
            refine ok_b1 (ok_tr hs_13 (T_X10_push isT_58 hs_13.1)) (fun s_41 (hs_42 : RC true s s_41) => ?_)
            extract_lets +onlyGivenNames s_43
            have hs_44 : RC true s s_43 := (RC_mu hs_42 (by decide))
            clear_value s_43
            exact ok_some (lp_inl ⟨rfl, hs_44, (up_nn hn_14 (ge_t h_16))⟩ (up_t (ge_t h_16)))
        · exact ok_some (lp_inr (hs_13))
      · exact ok_some (lp_inr (hs_13))
theorem T_X7_readClosings {s : mG} (hI : IC s) : ok (F_X7_readClosings s) (RC true s) := by
  have hR : RC true s s := RC_refl hI
  unfold F_X7_readClosings
  refine ok_b1 (ok_tr hR (T_X7_closeNots hR.1)) (fun s_1 (hs_2 : RC true s s_1) => ?_)
  unfold F_X7_readClosings_L6
  refine ok_whl (fun v => RC true s v.2 ∧ ¬ v.1 < 0) (fun v => mUp v.1) ⟨hs_2, nn0⟩ (fun v hv => ?_)
  obtain ⟨x_8, s_9⟩ := v
  obtain ⟨rhs_10, rhn_11⟩ := hv
  have hs_10 : RC true s s_9 := rhs_10
  have hn_11 : ¬ x_8 < 0 := rhn_11
  show ok (F_X7_readClosings_B6 x_8 s_9) _
  unfold F_X7_readClosings_B6
  refine ok_ite (fun h_12 => ?_) (fun h_13 => ?_)
  · exact ok_some (lp_inr (hs_10))
  · refine ok_ite (fun h_14 => ?_) (fun h_15 => ?_)
    · refine ok_ite (fun h_16 => ?_) (fun h_17 => ?_)
      · exact ok_some (lp_inr (hs_10))
      · refine ok_b1 (ok_tr hs_10 (T_X7_joinWhatWaits hs_10.1)) (fun s_18 (hs_19 : RC true s s_18) => ?_)
        extract_lets +onlyGivenNames s_20
        have hs_21 : RC true s s_20 := (RC_mu hs_19 (by decide))
        clear_value s_20
        extract_lets +onlyGivenNames s_22
        have hs_23 : RC true s s_22 := (RC_mu hs_21 (by decide))
        clear_value s_22
        refine ok_b1 (ok_tr hs_23 (T_X7_stepOn hs_23.1)) (fun s_24 (hs_25 : RC true s s_24) => ?_)
        refine ok_b1 (ok_tr hs_25 (T_X7_closeNots hs_25.1)) (fun s_26 (hs_27 : RC true s s_26) => ?_)
        exact ok_some (lp_inl ⟨hs_27, (up_nn hn_11 (ge_t h_13))⟩ (up_t (ge_t h_13)))
    · exact ok_some (lp_inr (hs_10))
theorem T_X7_readCondition {s : mG} (hI : IC s) : ok (F_X7_readCondition s) (fun τ => PB τ.1 ∧ RC true s τ.2) := by
  have hR : RC true s s := RC_refl hI
  unfold F_X7_readCondition
  extract_lets +onlyGivenNames s_1
  have hs_2 : RC true s s_1 := (RC_mu hR (by decide))
  clear_value s_1
  extract_lets +onlyGivenNames s_3
  have hs_4 : RC true s s_3 := (RC_mu hs_2 (by decide))
  clear_value s_3
  unfold F_X7_readCondition_L12
  refine ok_whl (fun v => RC true s v.2 ∧ ¬ v.1 < 0) (fun v => mUp v.1) ⟨hs_4, nn0⟩ (fun v hv => ?_)
  obtain ⟨x_31, s_32⟩ := v
  obtain ⟨rhs_33, rhn_34⟩ := hv
  have hs_33 : RC true s s_32 := rhs_33
  have hn_34 : ¬ x_31 < 0 := rhn_34
  show ok (F_X7_readCondition_B12 x_31 s_32) _
  unfold F_X7_readCondition_B12
  refine ok_ite (fun h_35 => ?_) (fun h_36 => ?_)
  · exact ok_some (lp_inr (⟨pb0, hs_33⟩))
  · refine ok_b2 (ok_tr3 hs_33 (T_X7_readOpenings hs_33.1)) (fun v_37 s_38 (hs_39 : PB v_37 ∧ RC true s s_38) => ?_)
    refine ok_ite (fun h_40 => ?_) (fun h_41 => ?_)
    · refine ok_b1r ?_
      unfold F_X7_readCondition_33
      exact ok_some ⟨pb0, hs_39.2⟩
    · refine ok_b2 (ok_tr3 hs_39.2 (T_X7_readSum hs_39.2.1)) (fun v_42 s_43 (hs_44 : PB v_42 ∧ RC true s s_43) => ?_)
      refine ok_ite (fun h_45 => ?_) (fun h_46 => ?_)
      · refine ok_b1r ?_
        unfold F_X7_readCondition_33
        exact ok_some ⟨pb0, hs_44.2⟩
      · refine ok_b1 (T_X7_stepOfComparison hs_44.2.1) (fun v_47 _ => ?_)
        refine ok_ite (fun h_49 => ?_) (fun h_50 => ?_)
        · refine ok_b2 (ok_tr3 hs_44.2 (T_X7_refuse hs_44.2.1)) (fun v_51 s_52 (hs_53 : PB v_51 ∧ RC true s s_52) => ?_)
          refine ok_pp hs_53.1 ?_
          exact ok_some (lp_inr (⟨hs_53.1, hs_53.2⟩))
        · refine ok_b1 (ok_tr hs_44.2 (T_X7_stepOn hs_44.2.1)) (fun s_54 (hs_55 : RC true s s_54) => ?_)
          refine ok_b2 (ok_tr3 hs_55 (T_X7_readSum hs_55.1)) (fun v_56 s_57 (hs_58 : PB v_56 ∧ RC true s s_57) => ?_)
          refine ok_ite (fun h_59 => ?_) (fun h_60 => ?_)
          · exact ok_some (lp_inr (⟨pb0, hs_58.2⟩))
          · refine ok_b1 (ok_tr hs_58.2 (T_X10_push isT_58 hs_58.2.1)) (fun s_61 (hs_62 : RC true s s_61) => ?_)
            refine ok_b1 (ok_tr hs_62 (T_X7_readClosings hs_62.1)) (fun s_63 (hs_64 : RC true s s_63) => ?_)
            refine ok_ite (fun h_65 => ?_) (fun h_66 => ?_)
            · unfold F_X7_readCondition_96
              refine ok_b1 (ok_tr hs_64 (T_X7_joinWhatWaits hs_64.1)) (fun s_67 (hs_68 : RC true s s_67) => ?_)
              refine ok_ite (fun h_69 => ?_) (fun h_70 => ?_)
              · unfold F_X7_readCondition_140
                refine ok_b1 (ok_tr hs_68 (T_X7_hold hs_68.1)) (fun s_71 (hs_72 : RC true s s_71) => ?_)
                refine ok_b1 (ok_tr hs_72 (T_X7_stepOn hs_72.1)) (fun s_73 (hs_74 : RC true s s_73) => ?_)
                exact ok_some (lp_inl ⟨hs_74, (up_nn hn_34 (ge_t h_36))⟩ (up_t (ge_t h_36)))
              · refine ok_ite (fun h_75 => ?_) (fun h_76 => ?_)
                · unfold F_X7_readCondition_140
                  refine ok_b1 (ok_tr hs_68 (T_X7_hold hs_68.1)) (fun s_77 (hs_78 : RC true s s_77) => ?_)
                  refine ok_b1 (ok_tr hs_78 (T_X7_stepOn hs_78.1)) (fun s_79 (hs_80 : RC true s s_79) => ?_)
                  exact ok_some (lp_inl ⟨hs_80, (up_nn hn_34 (ge_t h_36))⟩ (up_t (ge_t h_36)))
                · refine ok_ite (fun h_81 => ?_) (fun h_82 => ?_)
                  · refine ok_b1r ?_
                    unfold F_X7_readCondition_134
                    exact ok_some ⟨pb1, hs_68⟩
                  · refine ok_b2 (ok_tr3 hs_68 (T_X7_refuse hs_68.1)) (fun v_83 s_84 (hs_85 : PB v_83 ∧ RC true s s_84) => ?_)
                    refine ok_ite (fun h_86 => ?_) (fun h_87 => ?_)
                    · exact ok_some (lp_inr (⟨pb0, hs_85.2⟩))
                    · refine ok_b1r ?_
                      unfold F_X7_readCondition_134
                      exact ok_some ⟨pb1, hs_85.2⟩
            · unfold F_X7_readCondition_96
              refine ok_b1 (ok_tr hs_64 (T_X7_joinWhatWaits hs_64.1)) (fun s_88 (hs_89 : RC true s s_88) => ?_)
              refine ok_ite (fun h_90 => ?_) (fun h_91 => ?_)
              · unfold F_X7_readCondition_140
                refine ok_b1 (ok_tr hs_89 (T_X7_hold hs_89.1)) (fun s_92 (hs_93 : RC true s s_92) => ?_)
                refine ok_b1 (ok_tr hs_93 (T_X7_stepOn hs_93.1)) (fun s_94 (hs_95 : RC true s s_94) => ?_)
                exact ok_some (lp_inl ⟨hs_95, (up_nn hn_34 (ge_t h_36))⟩ (up_t (ge_t h_36)))
              · refine ok_ite (fun h_96 => ?_) (fun h_97 => ?_)
                · unfold F_X7_readCondition_140
                  refine ok_b1 (ok_tr hs_89 (T_X7_hold hs_89.1)) (fun s_98 (hs_99 : RC true s s_98) => ?_)
                  refine ok_b1 (ok_tr hs_99 (T_X7_stepOn hs_99.1)) (fun s_100 (hs_101 : RC true s s_100) => ?_)
                  exact ok_some (lp_inl ⟨hs_101, (up_nn hn_34 (ge_t h_36))⟩ (up_t (ge_t h_36)))
                · refine ok_ite (fun h_102 => ?_) (fun h_103 => ?_)
                  · refine ok_b1r ?_
                    unfold F_X7_readCondition_134
                    exact ok_some ⟨pb1, hs_89⟩
                  · refine ok_b2 (ok_tr3 hs_89 (T_X7_refuse hs_89.1)) (fun v_104 s_105 (hs_106 : PB v_104 ∧ RC true s s_105) => ?_)
                    refine ok_ite (fun h_107 => ?_) (fun h_108 => ?_)
                    · exact ok_some (lp_inr (⟨pb0, hs_106.2⟩))
                    · refine ok_b1r ?_
                      unfold F_X7_readCondition_134
                      exact ok_some ⟨pb1, hs_106.2⟩
end
