/-! 59.v1.foot -/
section
noncomputable section
theorem W_X2_forgetSeen_B2 {M : Nat} {z : mG} {hh : Nat} {x1 : Int32} {s : mG} (hM : sub 0 M) (h_hh_2 : M.testBit (hh + 2) = true) (h : KB M z s) : pk (F_X2_forgetSeen_B2 hh x1 s) (se (fun τ => KB M z τ.2) (fun τ => KB M z τ)) := by
  unfold F_X2_forgetSeen_B2
  refine pk_ite ?_ ?_
  · exact pk_some h
  · refine pk_b1 (W_X2_forgetSeenOf (sub_tr (by decide +kernel) hM) h_hh_2 h) (fun s_1 (h_2 : KB M z s_1) => ?_)
    exact pk_some h_2
theorem W_X2_forgetSeen_L2 {M : Nat} {z : mG} {hh : Nat} {x1 : Int32} {s : mG} (hM : sub 0 M) (h_hh_2 : M.testBit (hh + 2) = true) (h : KB M z s) : pk (F_X2_forgetSeen_L2 hh x1 s) (fun τ => KB M z τ) := by
  unfold F_X2_forgetSeen_L2
  refine pk_whl (fun v => KB M z v.2) h (fun v hv => ?_)
  obtain ⟨y0, y1⟩ := v
  exact W_X2_forgetSeen_B2 (sub_tr (by decide +kernel) hM) h_hh_2 hv
theorem W_X2_forgetSeen {M : Nat} {z : mG} {hh : Nat} {s : mG} (hM : sub 0 M) (h_hh_2 : M.testBit (hh + 2) = true) (h : KB M z s) : pk (F_X2_forgetSeen hh s) (fun τ => KB M z τ) := by
  unfold F_X2_forgetSeen
  exact (W_X2_forgetSeen_L2 (sub_tr (by decide +kernel) hM) h_hh_2 h)
theorem W_X2_drawThousand {M : Nat} {z : mG} {hh : Nat} {s : mG} (hM : sub 0 M) (h_hh_0 : M.testBit (hh + 0) = true) (h : KB M z s) : pk (F_X2_drawThousand hh s) (fun τ => KB M z τ.2) := by
  unfold F_X2_drawThousand
  extract_lets +onlyGivenNames s_1
  have h_2 : KB M z s_1 := KB_mu h h_hh_0
  clear_value s_1
  extract_lets +onlyGivenNames v_3
  clear_value v_3
  exact pk_some h_2
theorem W_X2_write {M : Nat} {z : mG} {hh : Nat} {a1 : Int32} {a2 : Int32} {a3 : Int32} {a4 : Int32} {s : mG} (hM : sub 0 M) (h_hh_3 : M.testBit (hh + 3) = true) (h_hh_4 : M.testBit (hh + 4) = true) (h : KB M z s) : pk (F_X2_write hh a1 a2 a3 a4 s) (fun τ => KB M z τ) := by
  unfold F_X2_write
  refine pk_b1 pk_top (fun _ _ => ?_)
  refine pk_ite ?_ ?_
  · refine pk_b2 (W_X10_add (sub_tr (by decide +kernel) hM) h_hh_3 h) (fun _ s_1 (h_2 : KB M z s_1) => ?_)
    refine pk_b1 (W_X10_put (sub_tr (by decide +kernel) hM) h_hh_4 h_2) (fun s_3 (h_4 : KB M z s_3) => ?_)
    refine pk_b1 (W_X10_put (sub_tr (by decide +kernel) hM) h_hh_4 h_4) (fun s_5 (h_6 : KB M z s_5) => ?_)
    refine pk_b1 (W_X10_put (sub_tr (by decide +kernel) hM) h_hh_4 h_6) (fun s_7 (h_8 : KB M z s_7) => ?_)
    refine pk_b1 (W_X10_put (sub_tr (by decide +kernel) hM) h_hh_4 h_8) (fun s_9 (h_10 : KB M z s_9) => ?_)
    refine pk_b1 (W_X10_put (sub_tr (by decide +kernel) hM) h_hh_4 h_10) (fun s_11 (h_12 : KB M z s_11) => ?_)
    exact pk_some h_12
  · exact pk_some h
theorem W_X4_takeFrom {M : Nat} {z : mG} {mo : Nat} {a1 : Nat} {s : mG} (hM : sub 0 M) (h_mo_0 : M.testBit (mo + 0) = true) (h_mo_1 : M.testBit (mo + 1) = true) (h_mo_2 : M.testBit (mo + 2) = true) (h : KB M z s) : pk (F_X4_takeFrom mo a1 s) (fun τ => KB M z τ) := by
  unfold F_X4_takeFrom
  refine pk_b1 (W_X10_copyFrom (sub_tr (by decide +kernel) hM) h_mo_1 h_mo_2 h) (fun s_1 (h_2 : KB M z s_1) => ?_)
  extract_lets +onlyGivenNames s_3
  have h_4 : KB M z s_3 := KB_mu h_2 h_mo_0
  clear_value s_3
  extract_lets +onlyGivenNames s_5
  have h_6 : KB M z s_5 := KB_mu h_4 h_mo_0
  clear_value s_5
  extract_lets +onlyGivenNames s_7
  have h_8 : KB M z s_7 := KB_mu h_6 h_mo_0
  clear_value s_7
  exact pk_some h_8
theorem W_X4_giveTo {M : Nat} {z : mG} {mo : Nat} {a1 : Nat} {s : mG} (hM : sub 0 M) (h_a1_0 : M.testBit (a1 + 0) = true) (h_a1_1 : M.testBit (a1 + 1) = true) (h_a1_2 : M.testBit (a1 + 2) = true) (h_a1_3 : M.testBit (a1 + 3) = true) (h : KB M z s) : pk (F_X4_giveTo mo a1 s) (fun τ => KB M z τ) := by
  unfold F_X4_giveTo
  refine pk_b1 (W_X10_copyFrom (sub_tr (by decide +kernel) hM) h_a1_1 h_a1_2 h) (fun s_1 (h_2 : KB M z s_1) => ?_)
  extract_lets +onlyGivenNames s_3
  have h_4 : KB M z s_3 := KB_mu h_2 h_a1_3
  clear_value s_3
  extract_lets +onlyGivenNames s_5
  have h_6 : KB M z s_5 := KB_mu h_4 h_a1_0
  clear_value s_5
  extract_lets +onlyGivenNames s_7
  have h_8 : KB M z s_7 := KB_mu h_6 h_a1_0
  clear_value s_7
  exact pk_some h_8
theorem W_X5_forget {M : Nat} {z : mG} {s : mG} (hM : sub 34359738368 M) (h : KB M z s) : pk (F_X5_forget s) (fun τ => KB M z τ) := by
  unfold F_X5_forget
  extract_lets +onlyGivenNames s_1
  have h_2 : KB M z s_1 := KB_mu h (hM 35 (by decide +kernel))
  clear_value s_1
  exact pk_some h_2
theorem W_X5_keep {M : Nat} {z : mG} {a1 : Nat} {s : mG} (hM : sub 36028693939748864 M) (h : KB M z s) : pk (F_X5_keep a1 s) (fun τ => KB M z τ) := by
  unfold F_X5_keep
  refine pk_bo ?_ (fun o2 ho1 => ?_)
  · exact pk_some h
  · refine pk_b1 (W_X4_takeFrom (sub_tr (by decide +kernel) hM) (hM _ (sub_and (by decide : 36028659580010496 &&& 36028693939748864 = 36028659580010496) _ (mom_bit ho1 (by decide : 0 < 3)))) (hM _ (sub_and (by decide : 36028659580010496 &&& 36028693939748864 = 36028659580010496) _ (mom_bit ho1 (by decide : 1 < 3)))) (hM _ (sub_and (by decide : 36028659580010496 &&& 36028693939748864 = 36028659580010496) _ (mom_bit ho1 (by decide : 2 < 3)))) h) (fun s_1 (h_2 : KB M z s_1) => ?_)
    extract_lets +onlyGivenNames s_3
    have h_4 : KB M z s_3 := KB_mu h_2 (hM 35 (by decide +kernel))
    clear_value s_3
    extract_lets +onlyGivenNames s_5
    have h_6 : KB M z s_5 := KB_mu h_4 (hM 35 (by decide +kernel))
    clear_value s_5
    exact pk_some h_6
theorem W_X5_giveBack_30 {M : Nat} {z : mG} {a1 : Nat} {s : mG} (hM : sub 0 M) (h : KB M z s) : pk (F_X5_giveBack_30 a1 s) (fun τ => KB M z τ.2) := by
  unfold F_X5_giveBack_30
  exact pk_some h
theorem W_X5_giveBack {M : Nat} {z : mG} {a1 : Nat} {s : mG} (hM : sub 34359738368 M) (h_a1_0 : M.testBit (a1 + 0) = true) (h_a1_1 : M.testBit (a1 + 1) = true) (h_a1_2 : M.testBit (a1 + 2) = true) (h_a1_3 : M.testBit (a1 + 3) = true) (h : KB M z s) : pk (F_X5_giveBack a1 s) (fun τ => KB M z τ.2) := by
  unfold F_X5_giveBack
  extract_lets +onlyGivenNames v_1
  clear_value v_1
  refine pk_bo ?_ (fun o3 ho1 => ?_)
  · refine pk_ite ?_ ?_
    · exact (W_X5_giveBack_30 (sub_tr (by decide +kernel) hM) h)
    · exact (W_X5_giveBack_30 (sub_tr (by decide +kernel) hM) h)
  · refine pk_ite ?_ ?_
    · exact (W_X5_giveBack_30 (sub_tr (by decide +kernel) hM) h)
    · refine pk_b1 (W_X4_giveTo (sub_tr (by decide +kernel) hM) h_a1_0 h_a1_1 h_a1_2 h_a1_3 h) (fun s_2 (h_3 : KB M z s_2) => ?_)
      extract_lets +onlyGivenNames s_4
      have h_5 : KB M z s_4 := KB_mu h_3 (hM 35 (by decide +kernel))
      clear_value s_4
      extract_lets +onlyGivenNames s_6
      have h_7 : KB M z s_6 := KB_mu h_5 (hM 35 (by decide +kernel))
      clear_value s_6
      exact pk_some h_7
theorem W_X6_ask_B10 {M : Nat} {z : mG} {x2 : Int32} {s : mG} (hM : sub 5902958103587056517120 M) (h : KB M z s) : pk (F_X6_ask_B10 x2 s) (se (fun τ => KB M z τ.2) (fun τ => KB M z τ)) := by
  unfold F_X6_ask_B10
  refine pk_ite ?_ ?_
  · exact pk_some h
  · refine pk_b2 (W_X3_tells (sub_tr (by decide +kernel) hM) h) (fun _ s_1 (h_2 : KB M z s_1) => ?_)
    refine pk_nn ?_
    extract_lets +onlyGivenNames s_3
    have h_4 : KB M z s_3 := KB_mu h_2 (hM 72 (by decide +kernel))
    clear_value s_3
    exact pk_some h_4
theorem W_X6_ask_L10 {M : Nat} {z : mG} {x2 : Int32} {s : mG} (hM : sub 5902958103587056517120 M) (h : KB M z s) : pk (F_X6_ask_L10 x2 s) (fun τ => KB M z τ) := by
  unfold F_X6_ask_L10
  refine pk_whl (fun v => KB M z v.2) h (fun v hv => ?_)
  obtain ⟨y0, y1⟩ := v
  exact W_X6_ask_B10 (sub_tr (by decide +kernel) hM) hv
theorem W_X6_ask {M : Nat} {z : mG} {a1 : Int32} {s : mG} (hM : sub 6493253913945762168832 M) (h : KB M z s) : pk (F_X6_ask a1 s) (fun τ => KB M z τ) := by
  unfold F_X6_ask
  refine pk_b1 (W_X3_face (sub_tr (by decide +kernel) hM) h) (fun s_1 (h_2 : KB M z s_1) => ?_)
  exact (W_X6_ask_L10 (sub_tr (by decide +kernel) hM) h_2)
theorem W_X6_isDrawn {M : Nat} {z : mG} {a1 : Int32} {s : mG} (hM : sub 2 M) (h : KB M z s) : pk (F_X6_isDrawn a1 s) (fun τ => KB M z τ.2) := by
  unfold F_X6_isDrawn
  refine pk_b2 (W_X2_drawThousand (sub_tr (by decide +kernel) hM) (hM 1 (by decide +kernel)) h) (fun _ s_1 (h_2 : KB M z s_1) => ?_)
  refine pk_b1 pk_top (fun _ _ => ?_)
  refine pk_ite ?_ ?_
  · exact pk_some h_2
  · exact pk_some h_2
theorem W_X6_hangKey_51 {M : Nat} {z : mG} {x1 : Int32} {x2 : Int32} {s : mG} (hM : sub 8 M) (h : KB M z s) : pk (F_X6_hangKey_51 x1 x2 s) (fun τ => KB M z τ) := by
  unfold F_X6_hangKey_51
  refine pk_b1 pk_top (fun _ _ => ?_)
  refine pk_ite ?_ ?_
  · refine pk_b1 (W_X10_put (sub_tr (by decide +kernel) hM) (hM 3 (by decide +kernel)) h) (fun s_1 (h_2 : KB M z s_1) => ?_)
    exact pk_some h_2
  · exact pk_some h
theorem W_X6_hangKey_50 {M : Nat} {z : mG} {x1 : Int32} {y0 : Int32} {s : mG} (hM : sub 8 M) (h : KB M z s) : pk (F_X6_hangKey_50 x1 y0 s) (fun τ => KB M z τ) := by
  unfold F_X6_hangKey_50
  exact (W_X6_hangKey_51 (sub_tr (by decide +kernel) hM) h)
theorem W_X6_hangKey_33 {M : Nat} {z : mG} {x1 : Int32} {y0 : Int32} {s : mG} (hM : sub 8 M) (h : KB M z s) : pk (F_X6_hangKey_33 x1 y0 s) (fun τ => KB M z τ) := by
  unfold F_X6_hangKey_33
  refine pk_b1 pk_top (fun _ _ => ?_)
  refine pk_ite ?_ ?_
  · exact (W_X6_hangKey_50 (sub_tr (by decide +kernel) hM) h)
  · exact (W_X6_hangKey_50 (sub_tr (by decide +kernel) hM) h)
theorem W_X6_hangKey {M : Nat} {z : mG} {a1 : Int32} {s : mG} (hM : sub 10 M) (h : KB M z s) : pk (F_X6_hangKey a1 s) (fun τ => KB M z τ) := by
  unfold F_X6_hangKey
  refine pk_b2 (W_X6_isDrawn (sub_tr (by decide +kernel) hM) h) (fun _ s_1 (h_2 : KB M z s_1) => ?_)
  refine pk_ite ?_ ?_
  · exact (W_X6_hangKey_51 (sub_tr (by decide +kernel) hM) h_2)
  · refine pk_ite ?_ ?_
    · exact (W_X6_hangKey_33 (sub_tr (by decide +kernel) hM) h_2)
    · exact (W_X6_hangKey_33 (sub_tr (by decide +kernel) hM) h_2)
theorem W_X6_goes_50 {M : Nat} {z : mG} {x1 : Int32} {x2 : Int32} {s : mG} (hM : sub 48 M) (h : KB M z s) : pk (F_X6_goes_50 x1 x2 s) (fun τ => KB M z τ.2) := by
  unfold F_X6_goes_50
  refine pk_b1 pk_top (fun _ _ => ?_)
  refine pk_b1 (W_X2_write (sub_tr (by decide +kernel) hM) (hM 4 (by decide +kernel)) (hM 5 (by decide +kernel)) h) (fun s_1 (h_2 : KB M z s_1) => ?_)
  exact pk_some h_2
theorem W_X6_goes_36 {M : Nat} {z : mG} {x1 : Int32} {y0 : Int32} {s : mG} (hM : sub 58 M) (h : KB M z s) : pk (F_X6_goes_36 x1 y0 s) (fun τ => KB M z τ.2) := by
  unfold F_X6_goes_36
  refine pk_b2 (W_X6_isDrawn (sub_tr (by decide +kernel) hM) h) (fun _ s_1 (h_2 : KB M z s_1) => ?_)
  refine pk_ite ?_ ?_
  · refine pk_b1 (W_X6_hangKey (sub_tr (by decide +kernel) hM) h_2) (fun s_3 (h_4 : KB M z s_3) => ?_)
    exact (W_X6_goes_50 (sub_tr (by decide +kernel) hM) h_4)
  · exact (W_X6_goes_50 (sub_tr (by decide +kernel) hM) h_2)
theorem W_X6_goes {M : Nat} {z : mG} {a1 : Int32} {s : mG} (hM : sub 58 M) (h : KB M z s) : pk (F_X6_goes a1 s) (fun τ => KB M z τ.2) := by
  unfold F_X6_goes
  refine pk_b2 (W_X6_isDrawn (sub_tr (by decide +kernel) hM) h) (fun _ s_1 (h_2 : KB M z s_1) => ?_)
  refine pk_ite ?_ ?_
  · exact pk_some h_2
  · refine pk_b1 (W_X10_put (sub_tr (by decide +kernel) hM) (hM 3 (by decide +kernel)) h_2) (fun s_3 (h_4 : KB M z s_3) => ?_)
    refine pk_b2 (W_X6_isDrawn (sub_tr (by decide +kernel) hM) h_4) (fun _ s_5 (h_6 : KB M z s_5) => ?_)
    refine pk_ite ?_ ?_
    · exact (W_X6_goes_36 (sub_tr (by decide +kernel) hM) h_6)
    · exact (W_X6_goes_36 (sub_tr (by decide +kernel) hM) h_6)
theorem W_X6_comes_49 {M : Nat} {z : mG} {x1 : Int32} {y0 : Int32} {s : mG} (hM : sub 48 M) (h : KB M z s) : pk (F_X6_comes_49 x1 y0 s) (fun τ => KB M z τ.2) := by
  unfold F_X6_comes_49
  refine pk_b1 pk_top (fun _ _ => ?_)
  refine pk_b1 (W_X2_write (sub_tr (by decide +kernel) hM) (hM 4 (by decide +kernel)) (hM 5 (by decide +kernel)) h) (fun s_1 (h_2 : KB M z s_1) => ?_)
  exact pk_some h_2
theorem W_X6_comes {M : Nat} {z : mG} {a1 : Int32} {s : mG} (hM : sub 58 M) (h : KB M z s) : pk (F_X6_comes a1 s) (fun τ => KB M z τ.2) := by
  unfold F_X6_comes
  refine pk_b2 (W_X6_isDrawn (sub_tr (by decide +kernel) hM) h) (fun _ s_1 (h_2 : KB M z s_1) => ?_)
  refine pk_ite ?_ ?_
  · exact pk_some h_2
  · refine pk_b1 (W_X10_put (sub_tr (by decide +kernel) hM) (hM 3 (by decide +kernel)) h_2) (fun s_3 (h_4 : KB M z s_3) => ?_)
    refine pk_b1 (W_X10_put (sub_tr (by decide +kernel) hM) (hM 3 (by decide +kernel)) h_4) (fun s_5 (h_6 : KB M z s_5) => ?_)
    refine pk_b2 (W_X6_isDrawn (sub_tr (by decide +kernel) hM) h_6) (fun _ s_7 (h_8 : KB M z s_7) => ?_)
    refine pk_ite ?_ ?_
    · exact (W_X6_comes_49 (sub_tr (by decide +kernel) hM) h_8)
    · exact (W_X6_comes_49 (sub_tr (by decide +kernel) hM) h_8)
theorem W_X6_passHour_101 {M : Nat} {z : mG} {x1 : Int32} {x2 : Int32} {y1 : Int32} {y2 : Int32} {y3 : Int32} {s : mG} (hM : sub 8 M) (h : KB M z s) : pk (F_X6_passHour_101 x1 x2 y1 y2 y3 s) (se (fun τ => KB M z τ.2.2) (fun τ => KB M z τ.2)) := by
  unfold F_X6_passHour_101
  refine pk_b1 (W_X10_put (sub_tr (by decide +kernel) hM) (hM 3 (by decide +kernel)) h) (fun s_1 (h_2 : KB M z s_1) => ?_)
  exact pk_some h_2
theorem W_X6_passHour_58 {M : Nat} {z : mG} {x2 : Int32} {x3 : Int32} {y0 : Int32} {y1 : Int32} {s : mG} (hM : sub 8 M) (h : KB M z s) : pk (F_X6_passHour_58 x2 x3 y0 y1 s) (se (fun τ => KB M z τ.2.2) (fun τ => KB M z τ.2)) := by
  unfold F_X6_passHour_58
  refine pk_b1 pk_top (fun _ _ => ?_)
  extract_lets +onlyGivenNames v_1
  clear_value v_1
  refine pk_ite ?_ ?_
  · exact (W_X6_passHour_101 (sub_tr (by decide +kernel) hM) h)
  · exact (W_X6_passHour_101 (sub_tr (by decide +kernel) hM) h)
theorem W_X6_passHour_47 {M : Nat} {z : mG} {x1 : Int32} {x2 : Int32} {y0 : Int32} {s : mG} (hM : sub 8 M) (h : KB M z s) : pk (F_X6_passHour_47 x1 x2 y0 s) (se (fun τ => KB M z τ.2.2) (fun τ => KB M z τ.2)) := by
  unfold F_X6_passHour_47
  refine pk_ite ?_ ?_
  · exact (W_X6_passHour_58 (sub_tr (by decide +kernel) hM) h)
  · exact (W_X6_passHour_58 (sub_tr (by decide +kernel) hM) h)
theorem W_X6_passHour_B4 {M : Nat} {z : mG} {x1 : Int32} {x2 : Int32} {s : mG} (hM : sub 6493253913945762168890 M) (h : KB M z s) : pk (F_X6_passHour_B4 x1 x2 s) (se (fun τ => KB M z τ.2.2) (fun τ => KB M z τ.2)) := by
  unfold F_X6_passHour_B4
  refine pk_ite ?_ ?_
  · extract_lets +onlyGivenNames s_1
    have h_2 : KB M z s_1 := KB_mu h (hM 1 (by decide +kernel))
    clear_value s_1
    exact pk_some h_2
  · refine pk_b1 (W_X6_ask (sub_tr (by decide +kernel) hM) h) (fun s_3 (h_4 : KB M z s_3) => ?_)
    refine pk_b1 pk_top (fun _ _ => ?_)
    refine pk_ite ?_ ?_
    · refine pk_b2 (W_X6_goes (sub_tr (by decide +kernel) hM) h_4) (fun _ s_5 (h_6 : KB M z s_5) => ?_)
      exact (W_X6_passHour_47 (sub_tr (by decide +kernel) hM) h_6)
    · refine pk_b2 (W_X6_comes (sub_tr (by decide +kernel) hM) h_4) (fun _ s_7 (h_8 : KB M z s_7) => ?_)
      exact (W_X6_passHour_47 (sub_tr (by decide +kernel) hM) h_8)
theorem W_X6_passHour_L4 {M : Nat} {z : mG} {x1 : Int32} {x2 : Int32} {s : mG} (hM : sub 6493253913945762168890 M) (h : KB M z s) : pk (F_X6_passHour_L4 x1 x2 s) (fun τ => KB M z τ.2) := by
  unfold F_X6_passHour_L4
  refine pk_whl (fun v => KB M z v.2.2) h (fun v hv => ?_)
  obtain ⟨y0, y1, y2⟩ := v
  exact W_X6_passHour_B4 (sub_tr (by decide +kernel) hM) hv
theorem W_X6_passHour {M : Nat} {z : mG} {s : mG} (hM : sub 6493253913945762168890 M) (h : KB M z s) : pk (F_X6_passHour s) (fun τ => KB M z τ.2) := by
  unfold F_X6_passHour
  exact (W_X6_passHour_L4 (sub_tr (by decide +kernel) hM) h)
theorem W_X7_takeFour_B3 {M : Nat} {z : mG} {x1 : Int32} {x2 : Int32} {s : mG} (hM : sub 18482772870728515584 M) (h : KB M z s) : pk (F_X7_takeFour_B3 x1 x2 s) (se (fun τ => KB M z τ.2.2) (fun τ => KB M z τ)) := by
  unfold F_X7_takeFour_B3
  refine pk_ite ?_ ?_
  · exact pk_some h
  · refine pk_b1 (W_X11_put (sub_tr (by decide +kernel) hM) (hM 64 (by decide +kernel)) h) (fun s_1 (h_2 : KB M z s_1) => ?_)
    extract_lets +onlyGivenNames s_3
    have h_4 : KB M z s_3 := KB_mu h_2 (hM 55 (by decide +kernel))
    clear_value s_3
    exact pk_some h_4
theorem W_X7_takeFour_L3 {M : Nat} {z : mG} {x1 : Int32} {x2 : Int32} {s : mG} (hM : sub 18482772870728515584 M) (h : KB M z s) : pk (F_X7_takeFour_L3 x1 x2 s) (fun τ => KB M z τ) := by
  unfold F_X7_takeFour_L3
  refine pk_whl (fun v => KB M z v.2.2) h (fun v hv => ?_)
  obtain ⟨y0, y1, y2⟩ := v
  exact W_X7_takeFour_B3 (sub_tr (by decide +kernel) hM) hv
theorem W_X7_takeFour {M : Nat} {z : mG} {a1 : Int32} {s : mG} (hM : sub 18482772870728515584 M) (h : KB M z s) : pk (F_X7_takeFour a1 s) (fun τ => KB M z τ) := by
  unfold F_X7_takeFour
  exact (W_X7_takeFour_L3 (sub_tr (by decide +kernel) hM) h)
theorem W_X7_stepOn {M : Nat} {z : mG} {s : mG} (hM : sub 36028797018963968 M) (h : KB M z s) : pk (F_X7_stepOn s) (fun τ => KB M z τ) := by
  unfold F_X7_stepOn
  extract_lets +onlyGivenNames s_1
  have h_2 : KB M z s_1 := KB_mu h (hM 55 (by decide +kernel))
  clear_value s_1
  refine pk_b1 pk_top (fun _ _ => ?_)
  extract_lets +onlyGivenNames s_3
  have h_4 : KB M z s_3 := KB_mu h_2 (hM 55 (by decide +kernel))
  clear_value s_3
  refine pk_b1 pk_top (fun _ _ => ?_)
  extract_lets +onlyGivenNames s_5
  have h_6 : KB M z s_5 := KB_mu h_4 (hM 55 (by decide +kernel))
  clear_value s_5
  refine pk_b1 pk_top (fun _ _ => ?_)
  extract_lets +onlyGivenNames s_7
  have h_8 : KB M z s_7 := KB_mu h_6 (hM 55 (by decide +kernel))
  clear_value s_7
  exact pk_some h_8
theorem W_X7_skipBlanks_41 {M : Nat} {z : mG} {s : mG} (hM : sub 0 M) (h : KB M z s) : pk (F_X7_skipBlanks_41 s) (fun τ => KB M z τ.2) := by
  unfold F_X7_skipBlanks_41
  refine pk_ite ?_ ?_
  · exact pk_some h
  · exact pk_some h
theorem W_X7_skipBlanks_B0 {M : Nat} {z : mG} {s : mG} (hM : sub 36028797018963968 M) (h : KB M z s) : pk (F_X7_skipBlanks_B0 s) (se (fun τ => KB M z τ) (fun τ => KB M z τ.2)) := by
  unfold F_X7_skipBlanks_B0
  refine pk_ite ?_ ?_
  · refine pk_b1r ?_
    exact (W_X7_skipBlanks_41 (sub_tr (by decide +kernel) hM) h)
  · refine pk_b1 pk_top (fun _ _ => ?_)
    refine pk_b1 pk_top (fun _ _ => ?_)
    refine pk_ite ?_ ?_
    · refine pk_b1r ?_
      exact (W_X7_skipBlanks_41 (sub_tr (by decide +kernel) hM) h)
    · extract_lets +onlyGivenNames s_1
      have h_2 : KB M z s_1 := KB_mu h (hM 55 (by decide +kernel))
      clear_value s_1
      exact pk_some h_2
theorem W_X7_skipBlanks_L0 {M : Nat} {z : mG} {s : mG} (hM : sub 36028797018963968 M) (h : KB M z s) : pk (F_X7_skipBlanks_L0 s) (fun τ => KB M z τ.2) := by
  unfold F_X7_skipBlanks_L0
  refine pk_whl (fun v => KB M z v) h (fun v hv => ?_)
  exact W_X7_skipBlanks_B0 (sub_tr (by decide +kernel) hM) hv
theorem W_X7_skipBlanks {M : Nat} {z : mG} {s : mG} (hM : sub 36028797018963968 M) (h : KB M z s) : pk (F_X7_skipBlanks s) (fun τ => KB M z τ.2) := by
  unfold F_X7_skipBlanks
  exact (W_X7_skipBlanks_L0 (sub_tr (by decide +kernel) hM) h)
theorem W_X7_addToken {M : Nat} {z : mG} {a1 : Int32} {a2 : Int32} {a3 : Int32} {s : mG} (hM : sub 110680464442257309696 M) (h : KB M z s) : pk (F_X7_addToken a1 a2 a3 s) (fun τ => KB M z τ) := by
  unfold F_X7_addToken
  refine pk_b2 (W_X10_add (sub_tr (by decide +kernel) hM) (hM 65 (by decide +kernel)) h) (fun _ s_1 (h_2 : KB M z s_1) => ?_)
  refine pk_b1 (W_X10_put (sub_tr (by decide +kernel) hM) (hM 66 (by decide +kernel)) h_2) (fun s_3 (h_4 : KB M z s_3) => ?_)
  refine pk_b1 (W_X10_put (sub_tr (by decide +kernel) hM) (hM 66 (by decide +kernel)) h_4) (fun s_5 (h_6 : KB M z s_5) => ?_)
  refine pk_b1 (W_X10_put (sub_tr (by decide +kernel) hM) (hM 66 (by decide +kernel)) h_6) (fun s_7 (h_8 : KB M z s_7) => ?_)
  exact pk_some h_8
theorem W_X7_splitWord_68 {M : Nat} {z : mG} {x1 : Int32} {y1 : Int32} {s : mG} (hM : sub 110680464442257309696 M) (h : KB M z s) : pk (F_X7_splitWord_68 x1 y1 s) (fun τ => KB M z τ) := by
  unfold F_X7_splitWord_68
  refine pk_b1 (W_X7_addToken (sub_tr (by decide +kernel) hM) h) (fun s_1 (h_2 : KB M z s_1) => ?_)
  exact pk_some h_2
theorem W_X7_splitWord_46 {M : Nat} {z : mG} {x1 : Int32} {s : mG} (hM : sub 110680464442257309696 M) (h : KB M z s) : pk (F_X7_splitWord_46 x1 s) (fun τ => KB M z τ) := by
  unfold F_X7_splitWord_46
  refine pk_b1 pk_top (fun _ _ => ?_)
  refine pk_ite ?_ ?_
  · exact (W_X7_splitWord_68 (sub_tr (by decide +kernel) hM) h)
  · exact (W_X7_splitWord_68 (sub_tr (by decide +kernel) hM) h)
theorem W_X7_splitWord_B5 {M : Nat} {z : mG} {x1 : Int32} {s : mG} (hM : sub 110716493239276273664 M) (h : KB M z s) : pk (F_X7_splitWord_B5 x1 s) (se (fun τ => KB M z τ.2) (fun τ => KB M z τ)) := by
  unfold F_X7_splitWord_B5
  refine pk_ite ?_ ?_
  · refine pk_b1r ?_
    exact (W_X7_splitWord_46 (sub_tr (by decide +kernel) hM) h)
  · refine pk_b1 pk_top (fun _ _ => ?_)
    refine pk_b1 pk_top (fun _ _ => ?_)
    refine pk_ite ?_ ?_
    · refine pk_b1r ?_
      exact (W_X7_splitWord_46 (sub_tr (by decide +kernel) hM) h)
    · extract_lets +onlyGivenNames s_1
      have h_2 : KB M z s_1 := KB_mu h (hM 55 (by decide +kernel))
      clear_value s_1
      exact pk_some h_2
theorem W_X7_splitWord_L5 {M : Nat} {z : mG} {x1 : Int32} {s : mG} (hM : sub 110716493239276273664 M) (h : KB M z s) : pk (F_X7_splitWord_L5 x1 s) (fun τ => KB M z τ) := by
  unfold F_X7_splitWord_L5
  refine pk_whl (fun v => KB M z v.2) h (fun v hv => ?_)
  obtain ⟨y0, y1⟩ := v
  exact W_X7_splitWord_B5 (sub_tr (by decide +kernel) hM) hv
theorem W_X7_splitWord {M : Nat} {z : mG} {s : mG} (hM : sub 110716493239276273664 M) (h : KB M z s) : pk (F_X7_splitWord s) (fun τ => KB M z τ) := by
  unfold F_X7_splitWord
  exact (W_X7_splitWord_L5 (sub_tr (by decide +kernel) hM) h)
theorem W_X7_splitNumber_100 {M : Nat} {z : mG} {x1 : Int32} {x2 : Int32} {y1 : Int32} {s : mG} (hM : sub 110680464442257309696 M) (h : KB M z s) : pk (F_X7_splitNumber_100 x1 x2 y1 s) (fun τ => KB M z τ) := by
  unfold F_X7_splitNumber_100
  refine pk_b1 (W_X7_addToken (sub_tr (by decide +kernel) hM) h) (fun s_1 (h_2 : KB M z s_1) => ?_)
  exact pk_some h_2
theorem W_X7_splitNumber_82 {M : Nat} {z : mG} {x1 : Int32} {x2 : Int32} {s : mG} (hM : sub 110680464442257309696 M) (h : KB M z s) : pk (F_X7_splitNumber_82 x1 x2 s) (fun τ => KB M z τ) := by
  unfold F_X7_splitNumber_82
  refine pk_ite ?_ ?_
  · exact (W_X7_splitNumber_100 (sub_tr (by decide +kernel) hM) h)
  · exact (W_X7_splitNumber_100 (sub_tr (by decide +kernel) hM) h)
theorem W_X7_splitNumber_68 {M : Nat} {z : mG} {x1 : Int32} {y0 : Int32} {s : mG} (hM : sub 36028797018963968 M) (h : KB M z s) : pk (F_X7_splitNumber_68 x1 y0 s) (se (fun τ => KB M z τ.2.2) (fun τ => KB M z τ)) := by
  unfold F_X7_splitNumber_68
  extract_lets +onlyGivenNames s_1
  have h_2 : KB M z s_1 := KB_mu h (hM 55 (by decide +kernel))
  clear_value s_1
  exact pk_some h_2
theorem W_X7_splitNumber_B7 {M : Nat} {z : mG} {x1 : Int32} {x2 : Int32} {s : mG} (hM : sub 110716493239276273664 M) (h : KB M z s) : pk (F_X7_splitNumber_B7 x1 x2 s) (se (fun τ => KB M z τ.2.2) (fun τ => KB M z τ)) := by
  unfold F_X7_splitNumber_B7
  refine pk_ite ?_ ?_
  · refine pk_b1r ?_
    exact (W_X7_splitNumber_82 (sub_tr (by decide +kernel) hM) h)
  · refine pk_b1 pk_top (fun _ _ => ?_)
    refine pk_b1 pk_top (fun _ _ => ?_)
    refine pk_ite ?_ ?_
    · refine pk_b1r ?_
      exact (W_X7_splitNumber_82 (sub_tr (by decide +kernel) hM) h)
    · refine pk_ite ?_ ?_
      · exact (W_X7_splitNumber_68 (sub_tr (by decide +kernel) hM) h)
      · refine pk_b1 pk_top (fun _ _ => ?_)
        exact (W_X7_splitNumber_68 (sub_tr (by decide +kernel) hM) h)
theorem W_X7_splitNumber_L7 {M : Nat} {z : mG} {x1 : Int32} {x2 : Int32} {s : mG} (hM : sub 110716493239276273664 M) (h : KB M z s) : pk (F_X7_splitNumber_L7 x1 x2 s) (fun τ => KB M z τ) := by
  unfold F_X7_splitNumber_L7
  refine pk_whl (fun v => KB M z v.2.2) h (fun v hv => ?_)
  obtain ⟨y0, y1, y2⟩ := v
  exact W_X7_splitNumber_B7 (sub_tr (by decide +kernel) hM) hv
theorem W_X7_splitNumber {M : Nat} {z : mG} {s : mG} (hM : sub 110716493239276273664 M) (h : KB M z s) : pk (F_X7_splitNumber s) (fun τ => KB M z τ) := by
  unfold F_X7_splitNumber
  exact (W_X7_splitNumber_L7 (sub_tr (by decide +kernel) hM) h)
theorem W_X7_splitTape_94 {M : Nat} {z : mG} {s : mG} (hM : sub 110680464442257309696 M) (h : KB M z s) : pk (F_X7_splitTape_94 s) (fun τ => KB M z τ) := by
  unfold F_X7_splitTape_94
  refine pk_b1 (W_X7_addToken (sub_tr (by decide +kernel) hM) h) (fun s_1 (h_2 : KB M z s_1) => ?_)
  exact pk_some h_2
theorem W_X7_splitTape_88 {M : Nat} {z : mG} {x1 : Int32} {s : mG} (hM : sub 0 M) (h : KB M z s) : pk (F_X7_splitTape_88 x1 s) (se (fun τ => KB M z τ.2) (fun τ => KB M z τ)) := by
  unfold F_X7_splitTape_88
  exact pk_some h
theorem W_X7_splitTape_B14 {M : Nat} {z : mG} {x1 : Int32} {s : mG} (hM : sub 110716493239276273664 M) (h : KB M z s) : pk (F_X7_splitTape_B14 x1 s) (se (fun τ => KB M z τ.2) (fun τ => KB M z τ)) := by
  unfold F_X7_splitTape_B14
  refine pk_ite ?_ ?_
  · refine pk_b1r ?_
    exact (W_X7_splitTape_94 (sub_tr (by decide +kernel) hM) h)
  · refine pk_b2 (W_X7_skipBlanks (sub_tr (by decide +kernel) hM) h) (fun _ s_1 (h_2 : KB M z s_1) => ?_)
    refine pk_ite ?_ ?_
    · refine pk_b1r ?_
      exact (W_X7_splitTape_94 (sub_tr (by decide +kernel) hM) h_2)
    · refine pk_b1 pk_top (fun _ _ => ?_)
      refine pk_b1 pk_top (fun _ _ => ?_)
      refine pk_ite ?_ ?_
      · refine pk_b1 pk_top (fun _ _ => ?_)
        refine pk_ite ?_ ?_
        · refine pk_b1 (W_X7_addToken (sub_tr (by decide +kernel) hM) h_2) (fun s_3 (h_4 : KB M z s_3) => ?_)
          extract_lets +onlyGivenNames s_5
          have h_6 : KB M z s_5 := KB_mu h_4 (hM 55 (by decide +kernel))
          clear_value s_5
          exact (W_X7_splitTape_88 (sub_tr (by decide +kernel) hM) h_6)
        · refine pk_b1 (W_X7_splitNumber (sub_tr (by decide +kernel) hM) h_2) (fun s_7 (h_8 : KB M z s_7) => ?_)
          exact (W_X7_splitTape_88 (sub_tr (by decide +kernel) hM) h_8)
      · refine pk_b1 (W_X7_splitWord (sub_tr (by decide +kernel) hM) h_2) (fun s_9 (h_10 : KB M z s_9) => ?_)
        exact (W_X7_splitTape_88 (sub_tr (by decide +kernel) hM) h_10)
theorem W_X7_splitTape_L14 {M : Nat} {z : mG} {x1 : Int32} {s : mG} (hM : sub 110716493239276273664 M) (h : KB M z s) : pk (F_X7_splitTape_L14 x1 s) (fun τ => KB M z τ) := by
  unfold F_X7_splitTape_L14
  refine pk_whl (fun v => KB M z v.2) h (fun v hv => ?_)
  obtain ⟨y0, y1⟩ := v
  exact W_X7_splitTape_B14 (sub_tr (by decide +kernel) hM) hv
theorem W_X7_splitTape {M : Nat} {z : mG} {s : mG} (hM : sub 110716493239276273664 M) (h : KB M z s) : pk (F_X7_splitTape s) (fun τ => KB M z τ) := by
  unfold F_X7_splitTape
  refine pk_b1 (W_X10_clear (sub_tr (by decide +kernel) hM) (hM 65 (by decide +kernel)) h) (fun s_1 (h_2 : KB M z s_1) => ?_)
  extract_lets +onlyGivenNames s_3
  have h_4 : KB M z s_3 := KB_mu h_2 (hM 55 (by decide +kernel))
  clear_value s_3
  exact (W_X7_splitTape_L14 (sub_tr (by decide +kernel) hM) h_4)
theorem W_X7_refuse {M : Nat} {z : mG} {a1 : Int32} {s : mG} (hM : sub 36028797018963968 M) (h : KB M z s) : pk (F_X7_refuse a1 s) (fun τ => KB M z τ.2) := by
  unfold F_X7_refuse
  extract_lets +onlyGivenNames s_1
  have h_2 : KB M z s_1 := KB_mu h (hM 55 (by decide +kernel))
  clear_value s_1
  extract_lets +onlyGivenNames s_3
  have h_4 : KB M z s_3 := KB_mu h_2 (hM 55 (by decide +kernel))
  clear_value s_3
  exact pk_some h_4
theorem W_X7_pass {M : Nat} {z : mG} {a1 : Int32} {s : mG} (hM : sub 36028797018963968 M) (h : KB M z s) : pk (F_X7_pass a1 s) (fun τ => KB M z τ.2) := by
  unfold F_X7_pass
  refine pk_ite ?_ ?_
  · refine pk_b1 (W_X7_stepOn (sub_tr (by decide +kernel) hM) h) (fun s_1 (h_2 : KB M z s_1) => ?_)
    exact pk_some h_2
  · refine pk_b2 (W_X7_refuse (sub_tr (by decide +kernel) hM) h) (fun _ s_3 (h_4 : KB M z s_3) => ?_)
    refine pk_pp ?_
    exact pk_some h_4
theorem W_X7_readHead_30 {M : Nat} {z : mG} {a2 : Nat} {s : mG} (hM : sub 0 M) (h : KB M z s) : pk (F_X7_readHead_30 a2 s) (fun τ => KB M z τ.2) := by
  unfold F_X7_readHead_30
  exact pk_some h
theorem W_X7_readHead {M : Nat} {z : mG} {a2 : Nat} {a1 : Int32} {s : mG} (hM : sub 36028797018963968 M) (h_a2_0 : M.testBit (a2 + 0) = true) (h : KB M z s) : pk (F_X7_readHead a2 a1 s) (fun τ => KB M z τ.2) := by
  unfold F_X7_readHead
  refine pk_ite ?_ ?_
  · refine pk_b2 (W_X10_add (sub_tr (by decide +kernel) hM) h_a2_0 h) (fun _ s_1 (h_2 : KB M z s_1) => ?_)
    refine pk_ite ?_ ?_
    · refine pk_b2 (W_X7_refuse (sub_tr (by decide +kernel) hM) h_2) (fun _ s_3 (h_4 : KB M z s_3) => ?_)
      refine pk_ite ?_ ?_
      · exact pk_some h_4
      · exact (W_X7_readHead_30 (sub_tr (by decide +kernel) hM) h_4)
    · exact (W_X7_readHead_30 (sub_tr (by decide +kernel) hM) h_2)
  · refine pk_b2 (W_X7_refuse (sub_tr (by decide +kernel) hM) h) (fun _ s_5 (h_6 : KB M z s_5) => ?_)
    refine pk_pp ?_
    exact pk_some h_6
theorem W_X7_readNamed {M : Nat} {z : mG} {a4 : Nat} {a1 : Int32} {a2 : Int32} {a3 : Int32} {a5 : Int32} {s : mG} (hM : sub 36028797018963968 M) (h_a4_1 : M.testBit (a4 + 1) = true) (h : KB M z s) : pk (F_X7_readNamed a4 a1 a2 a3 a5 s) (fun τ => KB M z τ.2) := by
  unfold F_X7_readNamed
  refine pk_b2 (W_X7_pass (sub_tr (by decide +kernel) hM) h) (fun _ s_1 (h_2 : KB M z s_1) => ?_)
  refine pk_ite ?_ ?_
  · exact pk_some h_2
  · refine pk_ite ?_ ?_
    · refine pk_b1 pk_top (fun _ _ => ?_)
      refine pk_ite ?_ ?_
      · refine pk_b2 (W_X7_refuse (sub_tr (by decide +kernel) hM) h_2) (fun _ s_3 (h_4 : KB M z s_3) => ?_)
        refine pk_pp ?_
        exact pk_some h_4
      · refine pk_b1 (W_X10_put (sub_tr (by decide +kernel) hM) h_a4_1 h_2) (fun s_5 (h_6 : KB M z s_5) => ?_)
        refine pk_b1 (W_X7_stepOn (sub_tr (by decide +kernel) hM) h_6) (fun s_7 (h_8 : KB M z s_7) => ?_)
        exact pk_some h_8
    · refine pk_b2 (W_X7_refuse (sub_tr (by decide +kernel) hM) h_2) (fun _ s_9 (h_10 : KB M z s_9) => ?_)
      refine pk_pp ?_
      exact pk_some h_10
theorem W_X7_readSign_71 {M : Nat} {z : mG} {s : mG} (hM : sub 0 M) (h : KB M z s) : pk (F_X7_readSign_71 s) (fun τ => KB M z τ.2) := by
  unfold F_X7_readSign_71
  exact pk_some h
theorem W_X7_readSign {M : Nat} {z : mG} {s : mG} (hM : sub 3494793310839504896 M) (h : KB M z s) : pk (F_X7_readSign s) (fun τ => KB M z τ.2) := by
  unfold F_X7_readSign
  refine pk_b2 (W_X7_readHead (sub_tr (by decide +kernel) hM) (hM 60 (by decide +kernel)) h) (fun _ s_1 (h_2 : KB M z s_1) => ?_)
  refine pk_ite ?_ ?_
  · exact pk_some h_2
  · refine pk_b1 (W_X7_stepOn (sub_tr (by decide +kernel) hM) h_2) (fun s_3 (h_4 : KB M z s_3) => ?_)
    refine pk_b2 (W_X7_readNamed (sub_tr (by decide +kernel) hM) (hM 61 (by decide +kernel)) h_4) (fun _ s_5 (h_6 : KB M z s_5) => ?_)
    refine pk_ite ?_ ?_
    · exact (W_X7_readSign_71 (sub_tr (by decide +kernel) hM) h_6)
    · refine pk_b2 (W_X7_readNamed (sub_tr (by decide +kernel) hM) (hM 61 (by decide +kernel)) h_6) (fun _ s_7 (h_8 : KB M z s_7) => ?_)
      refine pk_ite ?_ ?_
      · exact (W_X7_readSign_71 (sub_tr (by decide +kernel) hM) h_8)
      · refine pk_b2 (W_X7_pass (sub_tr (by decide +kernel) hM) h_8) (fun _ s_9 (h_10 : KB M z s_9) => ?_)
        refine pk_ite ?_ ?_
        · exact (W_X7_readSign_71 (sub_tr (by decide +kernel) hM) h_10)
        · exact pk_some h_10
theorem W_X7_readShift_97 {M : Nat} {z : mG} {s : mG} (hM : sub 0 M) (h : KB M z s) : pk (F_X7_readShift_97 s) (fun τ => KB M z τ.2) := by
  unfold F_X7_readShift_97
  exact pk_some h
theorem W_X7_readShift {M : Nat} {z : mG} {s : mG} (hM : sub 13871086852301127680 M) (h : KB M z s) : pk (F_X7_readShift s) (fun τ => KB M z τ.2) := by
  unfold F_X7_readShift
  refine pk_b2 (W_X7_readHead (sub_tr (by decide +kernel) hM) (hM 62 (by decide +kernel)) h) (fun _ s_1 (h_2 : KB M z s_1) => ?_)
  refine pk_ite ?_ ?_
  · exact (W_X7_readShift_97 (sub_tr (by decide +kernel) hM) h_2)
  · refine pk_b2 (W_X7_readNamed (sub_tr (by decide +kernel) hM) (hM 63 (by decide +kernel)) h_2) (fun _ s_3 (h_4 : KB M z s_3) => ?_)
    refine pk_ite ?_ ?_
    · exact (W_X7_readShift_97 (sub_tr (by decide +kernel) hM) h_4)
    · refine pk_b2 (W_X7_readNamed (sub_tr (by decide +kernel) hM) (hM 63 (by decide +kernel)) h_4) (fun _ s_5 (h_6 : KB M z s_5) => ?_)
      refine pk_ite ?_ ?_
      · exact (W_X7_readShift_97 (sub_tr (by decide +kernel) hM) h_6)
      · refine pk_b2 (W_X7_readNamed (sub_tr (by decide +kernel) hM) (hM 63 (by decide +kernel)) h_6) (fun _ s_7 (h_8 : KB M z s_7) => ?_)
        refine pk_ite ?_ ?_
        · exact (W_X7_readShift_97 (sub_tr (by decide +kernel) hM) h_8)
        · refine pk_b2 (W_X7_readNamed (sub_tr (by decide +kernel) hM) (hM 63 (by decide +kernel)) h_8) (fun _ s_9 (h_10 : KB M z s_9) => ?_)
          refine pk_ite ?_ ?_
          · exact (W_X7_readShift_97 (sub_tr (by decide +kernel) hM) h_10)
          · refine pk_b2 (W_X7_pass (sub_tr (by decide +kernel) hM) h_10) (fun _ s_11 (h_12 : KB M z s_11) => ?_)
            refine pk_ite ?_ ?_
            · exact (W_X7_readShift_97 (sub_tr (by decide +kernel) hM) h_12)
            · exact pk_some h_12
theorem W_X10_push {M : Nat} {z : mG} {t : Nat} {a1 : Int32} {s : mG} (hM : sub 0 M) (h_t_0 : M.testBit (t + 0) = true) (h_t_1 : M.testBit (t + 1) = true) (h : KB M z s) : pk (F_X10_push t a1 s) (fun τ => KB M z τ) := by
  unfold F_X10_push
  refine pk_ite ?_ ?_
  · exact pk_some h
  · extract_lets +onlyGivenNames s_1
    have h_2 : KB M z s_1 := KB_mu h h_t_0
    clear_value s_1
    refine pk_b1 (W_X10_put (sub_tr (by decide +kernel) hM) h_t_1 h_2) (fun s_3 (h_4 : KB M z s_3) => ?_)
    exact pk_some h_4
theorem W_X7_emitIfAny {M : Nat} {z : mG} {a1 : Int32} {s : mG} (hM : sub 864691128455135232 M) (h : KB M z s) : pk (F_X7_emitIfAny a1 s) (fun τ => KB M z τ) := by
  unfold F_X7_emitIfAny
  refine pk_ite ?_ ?_
  · exact pk_some h
  · refine pk_b1 (W_X10_push (sub_tr (by decide +kernel) hM) (hM 58 (by decide +kernel)) (hM 59 (by decide +kernel)) h) (fun s_1 (h_2 : KB M z s_1) => ?_)
    exact pk_some h_2
theorem W_X7_readUnit_68 {M : Nat} {z : mG} {s : mG} (hM : sub 36028797018963968 M) (h : KB M z s) : pk (F_X7_readUnit_68 s) (fun τ => KB M z τ.2) := by
  unfold F_X7_readUnit_68
  refine pk_b1 (W_X7_stepOn (sub_tr (by decide +kernel) hM) h) (fun s_1 (h_2 : KB M z s_1) => ?_)
  exact pk_some h_2
theorem W_X7_readUnit_62 {M : Nat} {z : mG} {s : mG} (hM : sub 36028797018963968 M) (h : KB M z s) : pk (F_X7_readUnit_62 s) (fun τ => KB M z τ.2) := by
  unfold F_X7_readUnit_62
  refine pk_b2 (W_X7_refuse (sub_tr (by decide +kernel) hM) h) (fun _ s_1 (h_2 : KB M z s_1) => ?_)
  refine pk_pp ?_
  exact pk_some h_2
theorem W_X7_readUnit {M : Nat} {z : mG} {s : mG} (hM : sub 900719925474099200 M) (h : KB M z s) : pk (F_X7_readUnit s) (fun τ => KB M z τ.2) := by
  unfold F_X7_readUnit
  extract_lets +onlyGivenNames v_1
  clear_value v_1
  refine pk_ite ?_ ?_
  · refine pk_b1 (W_X10_push (sub_tr (by decide +kernel) hM) (hM 58 (by decide +kernel)) (hM 59 (by decide +kernel)) h) (fun s_2 (h_3 : KB M z s_2) => ?_)
    exact (W_X7_readUnit_68 (sub_tr (by decide +kernel) hM) h_3)
  · refine pk_ite ?_ ?_
    · exact (W_X7_readUnit_62 (sub_tr (by decide +kernel) hM) h)
    · refine pk_ite ?_ ?_
      · exact (W_X7_readUnit_62 (sub_tr (by decide +kernel) hM) h)
      · refine pk_b1 (W_X10_push (sub_tr (by decide +kernel) hM) (hM 58 (by decide +kernel)) (hM 59 (by decide +kernel)) h) (fun s_4 (h_5 : KB M z s_4) => ?_)
        exact (W_X7_readUnit_68 (sub_tr (by decide +kernel) hM) h_5)
theorem W_X7_readPart {M : Nat} {z : mG} {s : mG} (hM : sub 900719925474099200 M) (h : KB M z s) : pk (F_X7_readPart s) (fun τ => KB M z τ.2) := by
  unfold F_X7_readPart
  refine pk_ite ?_ ?_
  · refine pk_ite ?_ ?_
    · refine pk_b2 (W_X7_refuse (sub_tr (by decide +kernel) hM) h) (fun _ s_1 (h_2 : KB M z s_1) => ?_)
      refine pk_pp ?_
      exact pk_some h_2
    · refine pk_b1 (W_X10_push (sub_tr (by decide +kernel) hM) (hM 58 (by decide +kernel)) (hM 59 (by decide +kernel)) h) (fun s_3 (h_4 : KB M z s_3) => ?_)
      refine pk_b1 (W_X7_stepOn (sub_tr (by decide +kernel) hM) h_4) (fun s_5 (h_6 : KB M z s_5) => ?_)
      exact pk_some h_6
  · refine pk_b2 (W_X7_refuse (sub_tr (by decide +kernel) hM) h) (fun _ s_7 (h_8 : KB M z s_7) => ?_)
    refine pk_pp ?_
    exact pk_some h_8
theorem W_X7_readSum_114 {M : Nat} {z : mG} {x1 : Int32} {s : mG} (hM : sub 864691128455135232 M) (h : KB M z s) : pk (F_X7_readSum_114 x1 s) (fun τ => KB M z τ.2) := by
  unfold F_X7_readSum_114
  refine pk_b1 (W_X7_emitIfAny (sub_tr (by decide +kernel) hM) h) (fun s_1 (h_2 : KB M z s_1) => ?_)
  exact pk_some h_2
theorem W_X7_readSum_91 {M : Nat} {z : mG} {s : mG} (hM : sub 0 M) (h : KB M z s) : pk (F_X7_readSum_91 s) (fun τ => KB M z τ.2) := by
  unfold F_X7_readSum_91
  exact pk_some h
theorem W_X7_readSum_105 {M : Nat} {z : mG} {x1 : Int32} {x2 : Int32} {y1 : Int32} {s : mG} (hM : sub 864691128455135232 M) (h : KB M z s) : pk (F_X7_readSum_105 x1 x2 y1 s) (se (fun τ => KB M z τ.2.2) (fun τ => KB M z τ.2)) := by
  unfold F_X7_readSum_105
  refine pk_b1 (W_X7_emitIfAny (sub_tr (by decide +kernel) hM) h) (fun s_1 (h_2 : KB M z s_1) => ?_)
  exact pk_some h_2
theorem W_X7_readSum_93 {M : Nat} {z : mG} {x1 : Int32} {x2 : Int32} {x3 : Int32} {s : mG} (hM : sub 864691128455135232 M) (h : KB M z s) : pk (F_X7_readSum_93 x1 x2 x3 s) (se (fun τ => KB M z τ.2.2) (fun τ => KB M z τ.2)) := by
  unfold F_X7_readSum_93
  refine pk_ite ?_ ?_
  · exact (W_X7_readSum_105 (sub_tr (by decide +kernel) hM) h)
  · exact (W_X7_readSum_105 (sub_tr (by decide +kernel) hM) h)
theorem W_X7_readSum_68 {M : Nat} {z : mG} {x1 : Int32} {x2 : Int32} {x3 : Int32} {s : mG} (hM : sub 900719925474099200 M) (h : KB M z s) : pk (F_X7_readSum_68 x1 x2 x3 s) (se (fun τ => KB M z τ.2.2) (fun τ => KB M z τ.2)) := by
  unfold F_X7_readSum_68
  refine pk_ite ?_ ?_
  · refine pk_b2 (W_X7_readPart (sub_tr (by decide +kernel) hM) h) (fun _ s_1 (h_2 : KB M z s_1) => ?_)
    refine pk_ite ?_ ?_
    · refine pk_b1r ?_
      exact (W_X7_readSum_91 (sub_tr (by decide +kernel) hM) h_2)
    · exact (W_X7_readSum_93 (sub_tr (by decide +kernel) hM) h_2)
  · refine pk_b2 (W_X7_readUnit (sub_tr (by decide +kernel) hM) h) (fun _ s_3 (h_4 : KB M z s_3) => ?_)
    refine pk_ite ?_ ?_
    · refine pk_b1r ?_
      exact (W_X7_readSum_91 (sub_tr (by decide +kernel) hM) h_4)
    · exact (W_X7_readSum_93 (sub_tr (by decide +kernel) hM) h_4)
theorem W_X7_readSum_67 {M : Nat} {z : mG} {x2 : Int32} {x3 : Int32} {y0 : Int32} {s : mG} (hM : sub 900719925474099200 M) (h : KB M z s) : pk (F_X7_readSum_67 x2 x3 y0 s) (se (fun τ => KB M z τ.2.2) (fun τ => KB M z τ.2)) := by
  unfold F_X7_readSum_67
  exact (W_X7_readSum_68 (sub_tr (by decide +kernel) hM) h)
theorem W_X7_readSum_51 {M : Nat} {z : mG} {x1 : Int32} {x2 : Int32} {x3 : Int32} {s : mG} (hM : sub 900719925474099200 M) (h : KB M z s) : pk (F_X7_readSum_51 x1 x2 x3 s) (se (fun τ => KB M z τ.2.2) (fun τ => KB M z τ.2)) := by
  unfold F_X7_readSum_51
  refine pk_b1 (W_X7_emitIfAny (sub_tr (by decide +kernel) hM) h) (fun s_1 (h_2 : KB M z s_1) => ?_)
  refine pk_ite ?_ ?_
  · exact (W_X7_readSum_67 (sub_tr (by decide +kernel) hM) h_2)
  · exact (W_X7_readSum_67 (sub_tr (by decide +kernel) hM) h_2)
theorem W_X7_readSum_B13 {M : Nat} {z : mG} {x1 : Int32} {x2 : Int32} {s : mG} (hM : sub 900719925474099200 M) (h : KB M z s) : pk (F_X7_readSum_B13 x1 x2 s) (se (fun τ => KB M z τ.2.2) (fun τ => KB M z τ.2)) := by
  unfold F_X7_readSum_B13
  refine pk_ite ?_ ?_
  · refine pk_b1r ?_
    exact (W_X7_readSum_114 (sub_tr (by decide +kernel) hM) h)
  · refine pk_b1 pk_top (fun _ _ => ?_)
    refine pk_ite ?_ ?_
    · refine pk_b1r ?_
      exact (W_X7_readSum_114 (sub_tr (by decide +kernel) hM) h)
    · refine pk_b1 (W_X7_stepOn (sub_tr (by decide +kernel) hM) h) (fun s_1 (h_2 : KB M z s_1) => ?_)
      refine pk_ite ?_ ?_
      · exact (W_X7_readSum_51 (sub_tr (by decide +kernel) hM) h_2)
      · refine pk_ite ?_ ?_
        · exact (W_X7_readSum_51 (sub_tr (by decide +kernel) hM) h_2)
        · exact (W_X7_readSum_68 (sub_tr (by decide +kernel) hM) h_2)
theorem W_X7_readSum_L13 {M : Nat} {z : mG} {x1 : Int32} {x2 : Int32} {s : mG} (hM : sub 900719925474099200 M) (h : KB M z s) : pk (F_X7_readSum_L13 x1 x2 s) (fun τ => KB M z τ.2) := by
  unfold F_X7_readSum_L13
  refine pk_whl (fun v => KB M z v.2.2) h (fun v hv => ?_)
  obtain ⟨y0, y1, y2⟩ := v
  exact W_X7_readSum_B13 (sub_tr (by decide +kernel) hM) hv
theorem W_X7_readSum {M : Nat} {z : mG} {s : mG} (hM : sub 900719925474099200 M) (h : KB M z s) : pk (F_X7_readSum s) (fun τ => KB M z τ.2) := by
  unfold F_X7_readSum
  refine pk_b2 (W_X7_readUnit (sub_tr (by decide +kernel) hM) h) (fun _ s_1 (h_2 : KB M z s_1) => ?_)
  refine pk_ite ?_ ?_
  · exact pk_some h_2
  · exact (W_X7_readSum_L13 (sub_tr (by decide +kernel) hM) h_2)
theorem W_X7_hold {M : Nat} {z : mG} {a1 : Int32} {s : mG} (hM : sub 147609981386695376896 M) (h : KB M z s) : pk (F_X7_hold a1 s) (fun τ => KB M z τ) := by
  unfold F_X7_hold
  refine pk_b1 (W_X11_put (sub_tr (by decide +kernel) hM) (hM 67 (by decide +kernel)) h) (fun s_1 (h_2 : KB M z s_1) => ?_)
  extract_lets +onlyGivenNames s_3
  have h_4 : KB M z s_3 := KB_mu h_2 (hM 55 (by decide +kernel))
  clear_value s_3
  exact pk_some h_4
theorem W_X7_readOpenings_71 {M : Nat} {z : mG} {s : mG} (hM : sub 0 M) (h : KB M z s) : pk (F_X7_readOpenings_71 s) (fun τ => KB M z τ.2) := by
  unfold F_X7_readOpenings_71
  exact pk_some h
theorem W_X7_readOpenings_28 {M : Nat} {z : mG} {x1 : Int32} {s : mG} (hM : sub 147609981386695376896 M) (h : KB M z s) : pk (F_X7_readOpenings_28 x1 s) (se (fun τ => KB M z τ.2) (fun τ => KB M z τ.2)) := by
  unfold F_X7_readOpenings_28
  refine pk_ite ?_ ?_
  · refine pk_b1 (W_X7_hold (sub_tr (by decide +kernel) hM) h) (fun s_1 (h_2 : KB M z s_1) => ?_)
    extract_lets +onlyGivenNames s_3
    have h_4 : KB M z s_3 := KB_mu h_2 (hM 55 (by decide +kernel))
    clear_value s_3
    refine pk_b1 (W_X7_stepOn (sub_tr (by decide +kernel) hM) h_4) (fun s_5 (h_6 : KB M z s_5) => ?_)
    exact pk_some h_6
  · refine pk_b2 (W_X7_refuse (sub_tr (by decide +kernel) hM) h) (fun _ s_7 (h_8 : KB M z s_7) => ?_)
    refine pk_pp ?_
    exact pk_some h_8
theorem W_X7_readOpenings_B2 {M : Nat} {z : mG} {x1 : Int32} {s : mG} (hM : sub 147609981386695376896 M) (h : KB M z s) : pk (F_X7_readOpenings_B2 x1 s) (se (fun τ => KB M z τ.2) (fun τ => KB M z τ.2)) := by
  unfold F_X7_readOpenings_B2
  refine pk_ite ?_ ?_
  · refine pk_b1r ?_
    exact (W_X7_readOpenings_71 (sub_tr (by decide +kernel) hM) h)
  · refine pk_ite ?_ ?_
    · exact (W_X7_readOpenings_28 (sub_tr (by decide +kernel) hM) h)
    · refine pk_ite ?_ ?_
      · exact (W_X7_readOpenings_28 (sub_tr (by decide +kernel) hM) h)
      · refine pk_b1r ?_
        exact (W_X7_readOpenings_71 (sub_tr (by decide +kernel) hM) h)
theorem W_X7_readOpenings_L2 {M : Nat} {z : mG} {x1 : Int32} {s : mG} (hM : sub 147609981386695376896 M) (h : KB M z s) : pk (F_X7_readOpenings_L2 x1 s) (fun τ => KB M z τ.2) := by
  unfold F_X7_readOpenings_L2
  refine pk_whl (fun v => KB M z v.2) h (fun v hv => ?_)
  obtain ⟨y0, y1⟩ := v
  exact W_X7_readOpenings_B2 (sub_tr (by decide +kernel) hM) hv
theorem W_X7_readOpenings {M : Nat} {z : mG} {s : mG} (hM : sub 147609981386695376896 M) (h : KB M z s) : pk (F_X7_readOpenings s) (fun τ => KB M z τ.2) := by
  unfold F_X7_readOpenings
  exact (W_X7_readOpenings_L2 (sub_tr (by decide +kernel) hM) h)
theorem W_X7_closeNots_B2 {M : Nat} {z : mG} {x1 : Int32} {s : mG} (hM : sub 900719925474099200 M) (h : KB M z s) : pk (F_X7_closeNots_B2 x1 s) (se (fun τ => KB M z τ.2) (fun τ => KB M z τ)) := by
  unfold F_X7_closeNots_B2
  refine pk_ite ?_ ?_
  · exact pk_some h
  · refine pk_b1 pk_top (fun _ _ => ?_)
    refine pk_ite ?_ ?_
    · refine pk_b1 (W_X10_push (sub_tr (by decide +kernel) hM) (hM 58 (by decide +kernel)) (hM 59 (by decide +kernel)) h) (fun s_1 (h_2 : KB M z s_1) => ?_)
      extract_lets +onlyGivenNames s_3
      have h_4 : KB M z s_3 := KB_mu h_2 (hM 55 (by decide +kernel))
      clear_value s_3
      extract_lets +onlyGivenNames s_5
      have h_6 : KB M z s_5 := KB_mu h_4 (hM 55 (by decide +kernel))
      clear_value s_5
      exact pk_some h_6
    · exact pk_some h
theorem W_X7_closeNots_L2 {M : Nat} {z : mG} {x1 : Int32} {s : mG} (hM : sub 900719925474099200 M) (h : KB M z s) : pk (F_X7_closeNots_L2 x1 s) (fun τ => KB M z τ) := by
  unfold F_X7_closeNots_L2
  refine pk_whl (fun v => KB M z v.2) h (fun v hv => ?_)
  obtain ⟨y0, y1⟩ := v
  exact W_X7_closeNots_B2 (sub_tr (by decide +kernel) hM) hv
theorem W_X7_closeNots {M : Nat} {z : mG} {s : mG} (hM : sub 900719925474099200 M) (h : KB M z s) : pk (F_X7_closeNots s) (fun τ => KB M z τ) := by
  unfold F_X7_closeNots
  exact (W_X7_closeNots_L2 (sub_tr (by decide +kernel) hM) h)
theorem W_X7_joinWhatWaits_50 {M : Nat} {z : mG} {x1 : Int32} {x2 : Int32} {y1 : Int32} {s : mG} (hM : sub 900719925474099200 M) (h : KB M z s) : pk (F_X7_joinWhatWaits_50 x1 x2 y1 s) (se (fun τ => KB M z τ.2.2) (fun τ => KB M z τ)) := by
  unfold F_X7_joinWhatWaits_50
  refine pk_b1 (W_X10_push (sub_tr (by decide +kernel) hM) (hM 58 (by decide +kernel)) (hM 59 (by decide +kernel)) h) (fun s_1 (h_2 : KB M z s_1) => ?_)
  extract_lets +onlyGivenNames s_3
  have h_4 : KB M z s_3 := KB_mu h_2 (hM 55 (by decide +kernel))
  clear_value s_3
  exact pk_some h_4
theorem W_X7_joinWhatWaits_32 {M : Nat} {z : mG} {x1 : Int32} {x2 : Int32} {x3 : Int32} {s : mG} (hM : sub 900719925474099200 M) (h : KB M z s) : pk (F_X7_joinWhatWaits_32 x1 x2 x3 s) (se (fun τ => KB M z τ.2.2) (fun τ => KB M z τ)) := by
  unfold F_X7_joinWhatWaits_32
  refine pk_ite ?_ ?_
  · exact (W_X7_joinWhatWaits_50 (sub_tr (by decide +kernel) hM) h)
  · exact (W_X7_joinWhatWaits_50 (sub_tr (by decide +kernel) hM) h)
theorem W_X7_joinWhatWaits_B2 {M : Nat} {z : mG} {x1 : Int32} {x2 : Int32} {s : mG} (hM : sub 900719925474099200 M) (h : KB M z s) : pk (F_X7_joinWhatWaits_B2 x1 x2 s) (se (fun τ => KB M z τ.2.2) (fun τ => KB M z τ)) := by
  unfold F_X7_joinWhatWaits_B2
  refine pk_ite ?_ ?_
  · exact pk_some h
  · refine pk_b1 pk_top (fun _ _ => ?_)
    refine pk_ite ?_ ?_
    · exact (W_X7_joinWhatWaits_32 (sub_tr (by decide +kernel) hM) h)
    · refine pk_ite ?_ ?_
      · refine pk_ite ?_ ?_
        · exact (W_X7_joinWhatWaits_32 (sub_tr (by decide +kernel) hM) h)
        · exact pk_some h
      · exact pk_some h
theorem W_X7_joinWhatWaits_L2 {M : Nat} {z : mG} {x1 : Int32} {x2 : Int32} {s : mG} (hM : sub 900719925474099200 M) (h : KB M z s) : pk (F_X7_joinWhatWaits_L2 x1 x2 s) (fun τ => KB M z τ) := by
  unfold F_X7_joinWhatWaits_L2
  refine pk_whl (fun v => KB M z v.2.2) h (fun v hv => ?_)
  obtain ⟨y0, y1, y2⟩ := v
  exact W_X7_joinWhatWaits_B2 (sub_tr (by decide +kernel) hM) hv
theorem W_X7_joinWhatWaits {M : Nat} {z : mG} {a1 : Int32} {s : mG} (hM : sub 900719925474099200 M) (h : KB M z s) : pk (F_X7_joinWhatWaits a1 s) (fun τ => KB M z τ) := by
  unfold F_X7_joinWhatWaits
  exact (W_X7_joinWhatWaits_L2 (sub_tr (by decide +kernel) hM) h)
theorem W_X7_readClosings_B6 {M : Nat} {z : mG} {x1 : Int32} {s : mG} (hM : sub 900719925474099200 M) (h : KB M z s) : pk (F_X7_readClosings_B6 x1 s) (se (fun τ => KB M z τ.2) (fun τ => KB M z τ)) := by
  unfold F_X7_readClosings_B6
  refine pk_ite ?_ ?_
  · exact pk_some h
  · refine pk_ite ?_ ?_
    · refine pk_ite ?_ ?_
      · exact pk_some h
      · refine pk_b1 (W_X7_joinWhatWaits (sub_tr (by decide +kernel) hM) h) (fun s_1 (h_2 : KB M z s_1) => ?_)
        extract_lets +onlyGivenNames s_3
        have h_4 : KB M z s_3 := KB_mu h_2 (hM 55 (by decide +kernel))
        clear_value s_3
        extract_lets +onlyGivenNames s_5
        have h_6 : KB M z s_5 := KB_mu h_4 (hM 55 (by decide +kernel))
        clear_value s_5
        refine pk_b1 (W_X7_stepOn (sub_tr (by decide +kernel) hM) h_6) (fun s_7 (h_8 : KB M z s_7) => ?_)
        refine pk_b1 (W_X7_closeNots (sub_tr (by decide +kernel) hM) h_8) (fun s_9 (h_10 : KB M z s_9) => ?_)
        exact pk_some h_10
    · exact pk_some h
theorem W_X7_readClosings_L6 {M : Nat} {z : mG} {x1 : Int32} {s : mG} (hM : sub 900719925474099200 M) (h : KB M z s) : pk (F_X7_readClosings_L6 x1 s) (fun τ => KB M z τ) := by
  unfold F_X7_readClosings_L6
  refine pk_whl (fun v => KB M z v.2) h (fun v hv => ?_)
  obtain ⟨y0, y1⟩ := v
  exact W_X7_readClosings_B6 (sub_tr (by decide +kernel) hM) hv
theorem W_X7_readClosings {M : Nat} {z : mG} {s : mG} (hM : sub 900719925474099200 M) (h : KB M z s) : pk (F_X7_readClosings s) (fun τ => KB M z τ) := by
  unfold F_X7_readClosings
  refine pk_b1 (W_X7_closeNots (sub_tr (by decide +kernel) hM) h) (fun s_1 (h_2 : KB M z s_1) => ?_)
  exact (W_X7_readClosings_L6 (sub_tr (by decide +kernel) hM) h_2)
theorem W_X7_readCondition_33 {M : Nat} {z : mG} {s : mG} (hM : sub 0 M) (h : KB M z s) : pk (F_X7_readCondition_33 s) (fun τ => KB M z τ.2) := by
  unfold F_X7_readCondition_33
  exact pk_some h
theorem W_X7_readCondition_140 {M : Nat} {z : mG} {x1 : Int32} {s : mG} (hM : sub 147609981386695376896 M) (h : KB M z s) : pk (F_X7_readCondition_140 x1 s) (se (fun τ => KB M z τ.2) (fun τ => KB M z τ.2)) := by
  unfold F_X7_readCondition_140
  refine pk_b1 (W_X7_hold (sub_tr (by decide +kernel) hM) h) (fun s_1 (h_2 : KB M z s_1) => ?_)
  refine pk_b1 (W_X7_stepOn (sub_tr (by decide +kernel) hM) h_2) (fun s_3 (h_4 : KB M z s_3) => ?_)
  exact pk_some h_4
theorem W_X7_readCondition_134 {M : Nat} {z : mG} {s : mG} (hM : sub 0 M) (h : KB M z s) : pk (F_X7_readCondition_134 s) (fun τ => KB M z τ.2) := by
  unfold F_X7_readCondition_134
  exact pk_some h
theorem W_X7_readCondition_96 {M : Nat} {z : mG} {x1 : Int32} {y1 : Int32} {s : mG} (hM : sub 148474672515150512128 M) (h : KB M z s) : pk (F_X7_readCondition_96 x1 y1 s) (se (fun τ => KB M z τ.2) (fun τ => KB M z τ.2)) := by
  unfold F_X7_readCondition_96
  refine pk_b1 (W_X7_joinWhatWaits (sub_tr (by decide +kernel) hM) h) (fun s_1 (h_2 : KB M z s_1) => ?_)
  refine pk_ite ?_ ?_
  · exact (W_X7_readCondition_140 (sub_tr (by decide +kernel) hM) h_2)
  · refine pk_ite ?_ ?_
    · exact (W_X7_readCondition_140 (sub_tr (by decide +kernel) hM) h_2)
    · refine pk_ite ?_ ?_
      · refine pk_b1r ?_
        exact (W_X7_readCondition_134 (sub_tr (by decide +kernel) hM) h_2)
      · refine pk_b2 (W_X7_refuse (sub_tr (by decide +kernel) hM) h_2) (fun _ s_3 (h_4 : KB M z s_3) => ?_)
        refine pk_ite ?_ ?_
        · exact pk_some h_4
        · refine pk_b1r ?_
          exact (W_X7_readCondition_134 (sub_tr (by decide +kernel) hM) h_4)
theorem W_X7_readCondition_B12 {M : Nat} {z : mG} {x1 : Int32} {s : mG} (hM : sub 148474672515150512128 M) (h : KB M z s) : pk (F_X7_readCondition_B12 x1 s) (se (fun τ => KB M z τ.2) (fun τ => KB M z τ.2)) := by
  unfold F_X7_readCondition_B12
  refine pk_ite ?_ ?_
  · exact pk_some h
  · refine pk_b2 (W_X7_readOpenings (sub_tr (by decide +kernel) hM) h) (fun _ s_1 (h_2 : KB M z s_1) => ?_)
    refine pk_ite ?_ ?_
    · refine pk_b1r ?_
      exact (W_X7_readCondition_33 (sub_tr (by decide +kernel) hM) h_2)
    · refine pk_b2 (W_X7_readSum (sub_tr (by decide +kernel) hM) h_2) (fun _ s_3 (h_4 : KB M z s_3) => ?_)
      refine pk_ite ?_ ?_
      · refine pk_b1r ?_
        exact (W_X7_readCondition_33 (sub_tr (by decide +kernel) hM) h_4)
      · refine pk_b1 pk_top (fun _ _ => ?_)
        refine pk_ite ?_ ?_
        · refine pk_b2 (W_X7_refuse (sub_tr (by decide +kernel) hM) h_4) (fun _ s_5 (h_6 : KB M z s_5) => ?_)
          refine pk_pp ?_
          exact pk_some h_6
        · refine pk_b1 (W_X7_stepOn (sub_tr (by decide +kernel) hM) h_4) (fun s_7 (h_8 : KB M z s_7) => ?_)
          refine pk_b2 (W_X7_readSum (sub_tr (by decide +kernel) hM) h_8) (fun _ s_9 (h_10 : KB M z s_9) => ?_)
          refine pk_ite ?_ ?_
          · exact pk_some h_10
          · refine pk_b1 (W_X10_push (sub_tr (by decide +kernel) hM) (hM 58 (by decide +kernel)) (hM 59 (by decide +kernel)) h_10) (fun s_11 (h_12 : KB M z s_11) => ?_)
            refine pk_b1 (W_X7_readClosings (sub_tr (by decide +kernel) hM) h_12) (fun s_13 (h_14 : KB M z s_13) => ?_)
            refine pk_ite ?_ ?_
            · exact (W_X7_readCondition_96 (sub_tr (by decide +kernel) hM) h_14)
            · exact (W_X7_readCondition_96 (sub_tr (by decide +kernel) hM) h_14)
theorem W_X7_readCondition_L12 {M : Nat} {z : mG} {x1 : Int32} {s : mG} (hM : sub 148474672515150512128 M) (h : KB M z s) : pk (F_X7_readCondition_L12 x1 s) (fun τ => KB M z τ.2) := by
  unfold F_X7_readCondition_L12
  refine pk_whl (fun v => KB M z v.2) h (fun v hv => ?_)
  obtain ⟨y0, y1⟩ := v
  exact W_X7_readCondition_B12 (sub_tr (by decide +kernel) hM) hv
theorem W_X7_readCondition {M : Nat} {z : mG} {s : mG} (hM : sub 148474672515150512128 M) (h : KB M z s) : pk (F_X7_readCondition s) (fun τ => KB M z τ.2) := by
  unfold F_X7_readCondition
  extract_lets +onlyGivenNames s_1
  have h_2 : KB M z s_1 := KB_mu h (hM 55 (by decide +kernel))
  clear_value s_1
  extract_lets +onlyGivenNames s_3
  have h_4 : KB M z s_3 := KB_mu h_2 (hM 55 (by decide +kernel))
  clear_value s_3
  exact (W_X7_readCondition_L12 (sub_tr (by decide +kernel) hM) h_4)
theorem W_X7_readLaw_126 {M : Nat} {z : mG} {x1 : Int32} {s : mG} (hM : sub 180143985094819840 M) (h : KB M z s) : pk (F_X7_readLaw_126 x1 s) (fun τ => KB M z τ.2) := by
  unfold F_X7_readLaw_126
  refine pk_b1 (W_X10_put (sub_tr (by decide +kernel) hM) (hM 57 (by decide +kernel)) h) (fun s_1 (h_2 : KB M z s_1) => ?_)
  refine pk_b2 (W_X7_pass (sub_tr (by decide +kernel) hM) h_2) (fun _ s_3 (h_4 : KB M z s_3) => ?_)
  refine pk_pp ?_
  exact pk_some h_4
theorem W_X7_readLaw {M : Nat} {z : mG} {s : mG} (hM : sub 148690845297264295936 M) (h : KB M z s) : pk (F_X7_readLaw s) (fun τ => KB M z τ.2) := by
  unfold F_X7_readLaw
  refine pk_b1 pk_top (fun _ _ => ?_)
  refine pk_ite ?_ ?_
  · refine pk_b2 (W_X7_refuse (sub_tr (by decide +kernel) hM) h) (fun _ s_1 (h_2 : KB M z s_1) => ?_)
    refine pk_pp ?_
    exact pk_some h_2
  · refine pk_b2 (W_X10_add (sub_tr (by decide +kernel) hM) (hM 56 (by decide +kernel)) h) (fun _ s_3 (h_4 : KB M z s_3) => ?_)
    refine pk_ite ?_ ?_
    · refine pk_b2 (W_X7_refuse (sub_tr (by decide +kernel) hM) h_4) (fun _ s_5 (h_6 : KB M z s_5) => ?_)
      refine pk_pp ?_
      exact pk_some h_6
    · refine pk_b1 (W_X10_put (sub_tr (by decide +kernel) hM) (hM 57 (by decide +kernel)) h_4) (fun s_7 (h_8 : KB M z s_7) => ?_)
      refine pk_b1 (W_X10_put (sub_tr (by decide +kernel) hM) (hM 57 (by decide +kernel)) h_8) (fun s_9 (h_10 : KB M z s_9) => ?_)
      refine pk_b1 (W_X7_stepOn (sub_tr (by decide +kernel) hM) h_10) (fun s_11 (h_12 : KB M z s_11) => ?_)
      refine pk_b2 (W_X7_readSum (sub_tr (by decide +kernel) hM) h_12) (fun _ s_13 (h_14 : KB M z s_13) => ?_)
      refine pk_ite ?_ ?_
      · exact pk_some h_14
      · refine pk_b1 (W_X10_put (sub_tr (by decide +kernel) hM) (hM 57 (by decide +kernel)) h_14) (fun s_15 (h_16 : KB M z s_15) => ?_)
        refine pk_ite ?_ ?_
        · refine pk_b1 (W_X7_stepOn (sub_tr (by decide +kernel) hM) h_16) (fun s_17 (h_18 : KB M z s_17) => ?_)
          refine pk_b2 (W_X7_readCondition (sub_tr (by decide +kernel) hM) h_18) (fun _ s_19 (h_20 : KB M z s_19) => ?_)
          refine pk_ite ?_ ?_
          · exact pk_some h_20
          · exact (W_X7_readLaw_126 (sub_tr (by decide +kernel) hM) h_20)
        · exact (W_X7_readLaw_126 (sub_tr (by decide +kernel) hM) h_16)
theorem W_X7_readText_19 {M : Nat} {z : mG} {s : mG} (hM : sub 0 M) (h : KB M z s) : pk (F_X7_readText_19 s) (fun τ => KB M z τ.2) := by
  unfold F_X7_readText_19
  exact pk_some h
theorem W_X7_readText_119 {M : Nat} {z : mG} {s : mG} (hM : sub 0 M) (h : KB M z s) : pk (F_X7_readText_119 s) (fun τ => KB M z τ.2) := by
  unfold F_X7_readText_119
  exact pk_some h
theorem W_X7_readText_106 {M : Nat} {z : mG} {x1 : Int32} {x2 : Int32} {y0 : Int32} {s : mG} (hM : sub 0 M) (h : KB M z s) : pk (F_X7_readText_106 x1 x2 y0 s) (se (fun τ => KB M z τ.2.2) (fun τ => KB M z τ.2)) := by
  unfold F_X7_readText_106
  refine pk_ite ?_ ?_
  · exact pk_some h
  · exact pk_some h
theorem W_X7_readText_B64 {M : Nat} {z : mG} {x1 : Int32} {x2 : Int32} {s : mG} (hM : sub 165984667866367000576 M) (h : KB M z s) : pk (F_X7_readText_B64 x1 x2 s) (se (fun τ => KB M z τ.2.2) (fun τ => KB M z τ.2)) := by
  unfold F_X7_readText_B64
  refine pk_ite ?_ ?_
  · refine pk_b1r ?_
    exact (W_X7_readText_119 (sub_tr (by decide +kernel) hM) h)
  · refine pk_ite ?_ ?_
    · refine pk_b1r ?_
      exact (W_X7_readText_119 (sub_tr (by decide +kernel) hM) h)
    · refine pk_ite ?_ ?_
      · refine pk_b2 (W_X7_readLaw (sub_tr (by decide +kernel) hM) h) (fun _ s_1 (h_2 : KB M z s_1) => ?_)
        exact (W_X7_readText_106 (sub_tr (by decide +kernel) hM) h_2)
      · refine pk_ite ?_ ?_
        · refine pk_b2 (W_X7_readSign (sub_tr (by decide +kernel) hM) h) (fun _ s_3 (h_4 : KB M z s_3) => ?_)
          exact (W_X7_readText_106 (sub_tr (by decide +kernel) hM) h_4)
        · refine pk_b2 (W_X7_readShift (sub_tr (by decide +kernel) hM) h) (fun _ s_5 (h_6 : KB M z s_5) => ?_)
          exact (W_X7_readText_106 (sub_tr (by decide +kernel) hM) h_6)
theorem W_X7_readText_L64 {M : Nat} {z : mG} {x1 : Int32} {x2 : Int32} {s : mG} (hM : sub 165984667866367000576 M) (h : KB M z s) : pk (F_X7_readText_L64 x1 x2 s) (fun τ => KB M z τ.2) := by
  unfold F_X7_readText_L64
  refine pk_whl (fun v => KB M z v.2.2) h (fun v hv => ?_)
  obtain ⟨y0, y1, y2⟩ := v
  exact W_X7_readText_B64 (sub_tr (by decide +kernel) hM) hv
theorem W_X7_readText {M : Nat} {z : mG} {a1 : Int32} {s : mG} (hM : sub 276665132308624310272 M) (h : KB M z s) : pk (F_X7_readText a1 s) (fun τ => KB M z τ.2) := by
  unfold F_X7_readText
  extract_lets +onlyGivenNames s_1
  have h_2 : KB M z s_1 := KB_mu h (hM 55 (by decide +kernel))
  clear_value s_1
  extract_lets +onlyGivenNames s_3
  have h_4 : KB M z s_3 := KB_mu h_2 (hM 55 (by decide +kernel))
  clear_value s_3
  refine pk_ite ?_ ?_
  · exact (W_X7_readText_19 (sub_tr (by decide +kernel) hM) h_4)
  · refine pk_ite ?_ ?_
    · refine pk_b1 (W_X7_splitTape (sub_tr (by decide +kernel) hM) h_4) (fun s_5 (h_6 : KB M z s_5) => ?_)
      refine pk_b1 (W_X10_clear (sub_tr (by decide +kernel) hM) (hM 56 (by decide +kernel)) h_6) (fun s_7 (h_8 : KB M z s_7) => ?_)
      refine pk_b1 (W_X10_clear (sub_tr (by decide +kernel) hM) (hM 58 (by decide +kernel)) h_8) (fun s_9 (h_10 : KB M z s_9) => ?_)
      refine pk_b1 (W_X10_clear (sub_tr (by decide +kernel) hM) (hM 60 (by decide +kernel)) h_10) (fun s_11 (h_12 : KB M z s_11) => ?_)
      refine pk_b1 (W_X10_clear (sub_tr (by decide +kernel) hM) (hM 62 (by decide +kernel)) h_12) (fun s_13 (h_14 : KB M z s_13) => ?_)
      extract_lets +onlyGivenNames s_15
      have h_16 : KB M z s_15 := KB_mu h_14 (hM 55 (by decide +kernel))
      clear_value s_15
      refine pk_b1 (W_X7_stepOn (sub_tr (by decide +kernel) hM) h_16) (fun s_17 (h_18 : KB M z s_17) => ?_)
      exact (W_X7_readText_L64 (sub_tr (by decide +kernel) hM) h_18)
    · exact (W_X7_readText_19 (sub_tr (by decide +kernel) hM) h_4)
theorem W_X9_roomAt_B51 {M : Nat} {z : mG} {x1 : Int32} {x2 : Int32} {s : mG} (hM : sub 0 M) (h : KB M z s) : pk (F_X9_roomAt_B51 x1 x2 s) (se (fun τ => KB M z τ.2.2) (fun τ => KB M z τ.2)) := by
  unfold F_X9_roomAt_B51
  refine pk_ite ?_ ?_
  · exact pk_some h
  · refine pk_b1 pk_top (fun _ _ => ?_)
    refine pk_ite ?_ ?_
    · exact pk_some h
    · exact pk_some h
theorem W_X9_roomAt_L51 {M : Nat} {z : mG} {x1 : Int32} {x2 : Int32} {s : mG} (hM : sub 0 M) (h : KB M z s) : pk (F_X9_roomAt_L51 x1 x2 s) (fun τ => KB M z τ.2) := by
  unfold F_X9_roomAt_L51
  refine pk_whl (fun v => KB M z v.2.2) h (fun v hv => ?_)
  obtain ⟨y0, y1, y2⟩ := v
  exact W_X9_roomAt_B51 (sub_tr (by decide +kernel) hM) hv
theorem W_X9_roomAt_B2 {M : Nat} {z : mG} {x1 : Int32} {x2 : Int32} {s : mG} (hM : sub 19363473467196621493108736 M) (h : KB M z s) : pk (F_X9_roomAt_B2 x1 x2 s) (se (fun τ => KB M z τ.2.2) (fun τ => KB M z τ.2)) := by
  unfold F_X9_roomAt_B2
  refine pk_ite ?_ ?_
  · refine pk_b1r ?_
    exact (W_X9_roomAt_L51 (sub_tr (by decide +kernel) hM) h)
  · refine pk_b1 pk_top (fun _ _ => ?_)
    refine pk_b2 (W_X0_sureOf (sub_tr (by decide +kernel) hM) h) (fun _ s_1 (h_2 : KB M z s_1) => ?_)
    refine pk_b1 (W_X11_put (sub_tr (by decide +kernel) hM) (hM 84 (by decide +kernel)) h_2) (fun s_3 (h_4 : KB M z s_3) => ?_)
    exact pk_some h_4
end
end
/-! 59.v2.foot -/
section
noncomputable section
theorem W_X9_roomAt_L2 {M : Nat} {z : mG} {x1 : Int32} {x2 : Int32} {s : mG} (hM : sub 19363473467196621493108736 M) (h : KB M z s) : pk (F_X9_roomAt_L2 x1 x2 s) (fun τ => KB M z τ.2) := by
  unfold F_X9_roomAt_L2
  refine pk_whl (fun v => KB M z v.2.2) h (fun v hv => ?_)
  obtain ⟨y0, y1, y2⟩ := v
  exact W_X9_roomAt_B2 (sub_tr (by decide +kernel) hM) hv
theorem W_X9_roomAt {M : Nat} {z : mG} {a1 : Int32} {s : mG} (hM : sub 19363473467196621493108736 M) (h : KB M z s) : pk (F_X9_roomAt a1 s) (fun τ => KB M z τ.2) := by
  unfold F_X9_roomAt
  exact (W_X9_roomAt_L2 (sub_tr (by decide +kernel) hM) h)
theorem W_X9_searchOn_148 {M : Nat} {z : mG} {rec : Int32 → Int32 → Int32 → Int32 → Int64 → mG → Option (mG)} {x1 : Int32} {x2 : Int32} {x3 : Int32} {x4 : Int32} {x5 : Int64} {x7 : Int32} {s : mG} (hM : sub 0 M) (hrec : ∀ (b0 : Int32) (b1 : Int32) (b2 : Int32) (b3 : Int32) (b4 : Int64) (r : mG), KB M z r → pk (rec b0 b1 b2 b3 b4 r) (fun τ => KB M z τ)) (h : KB M z s) : pk (F_X9_searchOn_148 rec x1 x2 x3 x4 x5 x7 s) (se (fun τ => KB M z τ.2.2.2.2.2.2) (fun τ => KB M z τ)) := by
  unfold F_X9_searchOn_148
  exact pk_some h
theorem W_X9_searchOn_B65 {M : Nat} {z : mG} {rec : Int32 → Int32 → Int32 → Int32 → Int64 → mG → Option (mG)} {x1 : Int32} {x2 : Int32} {x3 : Int32} {x4 : Int32} {x5 : Int64} {x7 : Int32} {s : mG} (hM : sub 77371252455336267181195264 M) (hrec : ∀ (b0 : Int32) (b1 : Int32) (b2 : Int32) (b3 : Int32) (b4 : Int64) (r : mG), KB M z r → pk (rec b0 b1 b2 b3 b4 r) (fun τ => KB M z τ)) (h : KB M z s) : pk (F_X9_searchOn_B65 rec x1 x2 x3 x4 x5 x7 s) (se (fun τ => KB M z τ.2.2.2.2.2.2) (fun τ => KB M z τ)) := by
  unfold F_X9_searchOn_B65
  refine pk_ite ?_ ?_
  · exact pk_some h
  · refine pk_ite ?_ ?_
    · exact pk_some h
    · extract_lets +onlyGivenNames v_1
      clear_value v_1
      refine pk_ite ?_ ?_
      · refine pk_ite ?_ ?_
        · exact (W_X9_searchOn_148 (sub_tr (by decide +kernel) hM) hrec h)
        · refine pk_b1 (W_X11_put (sub_tr (by decide +kernel) hM) (hM 86 (by decide +kernel)) h) (fun s_2 (h_3 : KB M z s_2) => ?_)
          refine pk_b1 pk_top (fun _ _ => ?_)
          refine pk_b1 (hrec _ _ _ _ _ _ h_3) (fun s_4 (h_5 : KB M z s_4) => ?_)
          exact (W_X9_searchOn_148 (sub_tr (by decide +kernel) hM) hrec h_5)
      · exact (W_X9_searchOn_148 (sub_tr (by decide +kernel) hM) hrec h)
theorem W_X9_searchOn_L65 {M : Nat} {z : mG} {rec : Int32 → Int32 → Int32 → Int32 → Int64 → mG → Option (mG)} {x1 : Int32} {x2 : Int32} {x3 : Int32} {x4 : Int32} {x5 : Int64} {x7 : Int32} {s : mG} (hM : sub 77371252455336267181195264 M) (hrec : ∀ (b0 : Int32) (b1 : Int32) (b2 : Int32) (b3 : Int32) (b4 : Int64) (r : mG), KB M z r → pk (rec b0 b1 b2 b3 b4 r) (fun τ => KB M z τ)) (h : KB M z s) : pk (F_X9_searchOn_L65 rec x1 x2 x3 x4 x5 x7 s) (fun τ => KB M z τ) := by
  unfold F_X9_searchOn_L65
  refine pk_whl (fun v => KB M z v.2.2.2.2.2.2) h (fun v hv => ?_)
  obtain ⟨y0, y1, y2, y3, y4, y5, y6⟩ := v
  exact W_X9_searchOn_B65 (sub_tr (by decide +kernel) hM) hrec hv
theorem W_X9_searchOn_62 {M : Nat} {z : mG} {rec : Int32 → Int32 → Int32 → Int32 → Int64 → mG → Option (mG)} {x1 : Int32} {x2 : Int32} {x3 : Int32} {x4 : Int32} {x5 : Int64} {s : mG} (hM : sub 77371252455336267181195264 M) (hrec : ∀ (b0 : Int32) (b1 : Int32) (b2 : Int32) (b3 : Int32) (b4 : Int64) (r : mG), KB M z r → pk (rec b0 b1 b2 b3 b4 r) (fun τ => KB M z τ)) (h : KB M z s) : pk (F_X9_searchOn_62 rec x1 x2 x3 x4 x5 s) (fun τ => KB M z τ) := by
  unfold F_X9_searchOn_62
  exact (W_X9_searchOn_L65 (sub_tr (by decide +kernel) hM) hrec h)
theorem W_X9_searchOn_B25 {M : Nat} {z : mG} {rec : Int32 → Int32 → Int32 → Int32 → Int64 → mG → Option (mG)} {x1 : Int32} {x2 : Int32} {x3 : Int32} {x4 : Int32} {x5 : Int64} {x7 : Int32} {s : mG} (hM : sub 232113757366008801543585792 M) (hrec : ∀ (b0 : Int32) (b1 : Int32) (b2 : Int32) (b3 : Int32) (b4 : Int64) (r : mG), KB M z r → pk (rec b0 b1 b2 b3 b4 r) (fun τ => KB M z τ)) (h : KB M z s) : pk (F_X9_searchOn_B25 rec x1 x2 x3 x4 x5 x7 s) (se (fun τ => KB M z τ.2.2.2.2.2.2) (fun τ => KB M z τ)) := by
  unfold F_X9_searchOn_B25
  refine pk_ite ?_ ?_
  · refine pk_b1r ?_
    exact (W_X9_searchOn_62 (sub_tr (by decide +kernel) hM) hrec h)
  · refine pk_ite ?_ ?_
    · refine pk_b1r ?_
      exact (W_X9_searchOn_62 (sub_tr (by decide +kernel) hM) hrec h)
    · refine pk_b1 pk_top (fun _ _ => ?_)
      refine pk_b1 (W_X11_put (sub_tr (by decide +kernel) hM) (hM 87 (by decide +kernel)) h) (fun s_1 (h_2 : KB M z s_1) => ?_)
      exact pk_some h_2
theorem W_X9_searchOn_L25 {M : Nat} {z : mG} {rec : Int32 → Int32 → Int32 → Int32 → Int64 → mG → Option (mG)} {x1 : Int32} {x2 : Int32} {x3 : Int32} {x4 : Int32} {x5 : Int64} {x7 : Int32} {s : mG} (hM : sub 232113757366008801543585792 M) (hrec : ∀ (b0 : Int32) (b1 : Int32) (b2 : Int32) (b3 : Int32) (b4 : Int64) (r : mG), KB M z r → pk (rec b0 b1 b2 b3 b4 r) (fun τ => KB M z τ)) (h : KB M z s) : pk (F_X9_searchOn_L25 rec x1 x2 x3 x4 x5 x7 s) (fun τ => KB M z τ) := by
  unfold F_X9_searchOn_L25
  refine pk_whl (fun v => KB M z v.2.2.2.2.2.2) h (fun v hv => ?_)
  obtain ⟨y0, y1, y2, y3, y4, y5, y6⟩ := v
  exact W_X9_searchOn_B25 (sub_tr (by decide +kernel) hM) hrec hv
theorem W_X9_searchOn {M : Nat} {z : mG} {rec : Int32 → Int32 → Int32 → Int32 → Int64 → mG → Option (mG)} {a1 : Int32} {a2 : Int32} {a3 : Int32} {a4 : Int32} {a5 : Int64} {s : mG} (hM : sub 241785163922925834941235200 M) (hrec : ∀ (b0 : Int32) (b1 : Int32) (b2 : Int32) (b3 : Int32) (b4 : Int64) (r : mG), KB M z r → pk (rec b0 b1 b2 b3 b4 r) (fun τ => KB M z τ)) (h : KB M z s) : pk (F_X9_searchOn rec a1 a2 a3 a4 a5 s) (fun τ => KB M z τ) := by
  unfold F_X9_searchOn
  refine pk_ite ?_ ?_
  · exact (W_X9_searchOn_62 (sub_tr (by decide +kernel) hM) hrec h)
  · extract_lets +onlyGivenNames s_1
    have h_2 : KB M z s_1 := h
    clear_value s_1
    extract_lets +onlyGivenNames s_3
    have h_4 : KB M z s_3 := KB_mu h_2 (hM 83 (by decide +kernel))
    clear_value s_3
    exact (W_X9_searchOn_L25 (sub_tr (by decide +kernel) hM) hrec h_4)
theorem W_Q_X9_searchOn {M : Nat} {z : mG} (hM : sub 241785163922925834941235200 M) : ∀ (n : Nat) (a0 : Int32) (a1 : Int32) (a2 : Int32) (a3 : Int32) (a4 : Int64) (s : mG), KB M z s → pk (Q_X9_searchOn n a0 a1 a2 a3 a4 s) (fun τ => KB M z τ)
  | 0, _, _, _, _, _, _, _ => pk_none
  | n + 1, _, _, _, _, _, _, h => W_X9_searchOn (sub_tr (by decide +kernel) hM) (fun a0 a1 a2 a3 a4 s h => W_Q_X9_searchOn hM n a0 a1 a2 a3 a4 s h) h
theorem W_R_X9_searchOn {M : Nat} {z : mG} {a0 : Int32} {a1 : Int32} {a2 : Int32} {a3 : Int32} {a4 : Int64} {s : mG} (hM : sub 241785163922925834941235200 M) (h : KB M z s) : pk (R_X9_searchOn a0 a1 a2 a3 a4 s) (fun τ => KB M z τ) := W_Q_X9_searchOn hM 5 a0 a1 a2 a3 a4 s h
theorem W_X9_searchFloors_B26 {M : Nat} {z : mG} {x1 : Int32} {x2 : Int32} {s : mG} (hM : sub 280491450503956523229642752 M) (h : KB M z s) : pk (F_X9_searchFloors_B26 x1 x2 s) (se (fun τ => KB M z τ.2.2) (fun τ => KB M z τ)) := by
  unfold F_X9_searchFloors_B26
  refine pk_ite ?_ ?_
  · extract_lets +onlyGivenNames s_1
    have h_2 : KB M z s_1 := h
    clear_value s_1
    extract_lets +onlyGivenNames s_3
    have h_4 : KB M z s_3 := KB_mu h_2 (hM 83 (by decide +kernel))
    clear_value s_3
    refine pk_b1 (W_X9_searchOn (sub_tr (by decide +kernel) hM) (fun _ _ _ _ _ _ h => W_R_X9_searchOn (sub_tr (by decide +kernel) hM) h) h_4) (fun s_5 (h_6 : KB M z s_5) => ?_)
    exact pk_some h_6
  · refine pk_b1 pk_top (fun _ _ => ?_)
    refine pk_b1 pk_top (fun _ _ => ?_)
    refine pk_b2 (W_X0_sureOf (sub_tr (by decide +kernel) hM) h) (fun _ s_7 (h_8 : KB M z s_7) => ?_)
    refine pk_b1 (W_X11_put (sub_tr (by decide +kernel) hM) (hM 85 (by decide +kernel)) h_8) (fun s_9 (h_10 : KB M z s_9) => ?_)
    exact pk_some h_10
theorem W_X9_searchFloors_L26 {M : Nat} {z : mG} {x1 : Int32} {x2 : Int32} {s : mG} (hM : sub 280491450503956523229642752 M) (h : KB M z s) : pk (F_X9_searchFloors_L26 x1 x2 s) (fun τ => KB M z τ) := by
  unfold F_X9_searchFloors_L26
  refine pk_whl (fun v => KB M z v.2.2) h (fun v hv => ?_)
  obtain ⟨y0, y1, y2⟩ := v
  exact W_X9_searchFloors_B26 (sub_tr (by decide +kernel) hM) hv
theorem W_X9_searchFloors_B2 {M : Nat} {z : mG} {x1 : Int32} {x2 : Int32} {s : mG} (hM : sub 280491450503956523229642752 M) (h : KB M z s) : pk (F_X9_searchFloors_B2 x1 x2 s) (se (fun τ => KB M z τ.2.2) (fun τ => KB M z τ)) := by
  unfold F_X9_searchFloors_B2
  refine pk_ite ?_ ?_
  · refine pk_b1r ?_
    exact (W_X9_searchFloors_L26 (sub_tr (by decide +kernel) hM) h)
  · refine pk_nn ?_
    extract_lets +onlyGivenNames s_1
    have h_2 : KB M z s_1 := KB_mu h (hM 85 (by decide +kernel))
    clear_value s_1
    exact pk_some h_2
theorem W_X9_searchFloors_L2 {M : Nat} {z : mG} {x1 : Int32} {x2 : Int32} {s : mG} (hM : sub 280491450503956523229642752 M) (h : KB M z s) : pk (F_X9_searchFloors_L2 x1 x2 s) (fun τ => KB M z τ) := by
  unfold F_X9_searchFloors_L2
  refine pk_whl (fun v => KB M z v.2.2) h (fun v hv => ?_)
  obtain ⟨y0, y1, y2⟩ := v
  exact W_X9_searchFloors_B2 (sub_tr (by decide +kernel) hM) hv
theorem W_X9_searchFloors {M : Nat} {z : mG} {a1 : Int32} {s : mG} (hM : sub 280491450503956523229642752 M) (h : KB M z s) : pk (F_X9_searchFloors a1 s) (fun τ => KB M z τ) := by
  unfold F_X9_searchFloors
  exact (W_X9_searchFloors_L2 (sub_tr (by decide +kernel) hM) h)
theorem W_X11_state {M : Nat} {z : mG} {a1 : Int32} {s : mG} (hM : sub 34359738370 M) (h : KB M z s) : pk (F_X11_state a1 s) (fun τ => KB M z τ.2) := by
  unfold F_X11_state
  extract_lets +onlyGivenNames s_1
  have h_2 : KB M z s_1 := KB_mu h (hM 1 (by decide +kernel))
  clear_value s_1
  refine pk_b1 (W_X5_forget (sub_tr (by decide +kernel) hM) h_2) (fun s_3 (h_4 : KB M z s_3) => ?_)
  exact pk_some h_4
theorem W_X11_guest_32 {M : Nat} {z : mG} {s : mG} (hM : sub 0 M) (h : KB M z s) : pk (F_X11_guest_32 s) (fun τ => KB M z τ.2) := by
  unfold F_X11_guest_32
  exact pk_some h
theorem W_X11_guest {M : Nat} {z : mG} {a1 : Int32} {a2 : Int32} {s : mG} (hM : sub 34359738380 M) (h : KB M z s) : pk (F_X11_guest a1 a2 s) (fun τ => KB M z τ.2) := by
  unfold F_X11_guest
  refine pk_b1 pk_top (fun _ _ => ?_)
  refine pk_ite ?_ ?_
  · exact (W_X11_guest_32 (sub_tr (by decide +kernel) hM) h)
  · refine pk_b1 pk_top (fun _ _ => ?_)
    refine pk_ite ?_ ?_
    · exact (W_X11_guest_32 (sub_tr (by decide +kernel) hM) h)
    · refine pk_b1 pk_top (fun _ _ => ?_)
      refine pk_ite ?_ ?_
      · refine pk_b1 (W_X5_forget (sub_tr (by decide +kernel) hM) h) (fun s_1 (h_2 : KB M z s_1) => ?_)
        refine pk_b2 (W_X2_addGuest (sub_tr (by decide +kernel) hM) (hM 2 (by decide +kernel)) (hM 3 (by decide +kernel)) h_2) (fun _ s_3 (h_4 : KB M z s_3) => ?_)
        exact pk_some h_4
      · exact (W_X11_guest_32 (sub_tr (by decide +kernel) hM) h)
theorem W_X11_set_56 {M : Nat} {z : mG} {s : mG} (hM : sub 34359738368 M) (h : KB M z s) : pk (F_X11_set_56 s) (fun τ => KB M z τ.2) := by
  unfold F_X11_set_56
  refine pk_b1 (W_X5_forget (sub_tr (by decide +kernel) hM) h) (fun s_1 (h_2 : KB M z s_1) => ?_)
  exact pk_some h_2
theorem W_X11_set {M : Nat} {z : mG} {a1 : Int32} {a2 : Int32} {a3 : Int32} {s : mG} (hM : sub 34359738378 M) (h : KB M z s) : pk (F_X11_set a1 a2 a3 s) (fun τ => KB M z τ.2) := by
  unfold F_X11_set
  refine pk_b1 pk_top (fun _ _ => ?_)
  refine pk_ite ?_ ?_
  · exact pk_some h
  · refine pk_ite ?_ ?_
    · extract_lets +onlyGivenNames s_1
      have h_2 : KB M z s_1 := KB_mu h (hM 1 (by decide +kernel))
      clear_value s_1
      exact (W_X11_set_56 (sub_tr (by decide +kernel) hM) h_2)
    · refine pk_ite ?_ ?_
      · extract_lets +onlyGivenNames s_3
        have h_4 : KB M z s_3 := KB_mu h (hM 1 (by decide +kernel))
        clear_value s_3
        exact (W_X11_set_56 (sub_tr (by decide +kernel) hM) h_4)
      · refine pk_b1 (W_X10_put (sub_tr (by decide +kernel) hM) (hM 3 (by decide +kernel)) h) (fun s_5 (h_6 : KB M z s_5) => ?_)
        exact (W_X11_set_56 (sub_tr (by decide +kernel) hM) h_6)
theorem W_X11_hang_44 {M : Nat} {z : mG} {s : mG} (hM : sub 0 M) (h : KB M z s) : pk (F_X11_hang_44 s) (fun τ => KB M z τ.2) := by
  unfold F_X11_hang_44
  exact pk_some h
theorem W_X11_hang {M : Nat} {z : mG} {a1 : Int32} {a2 : Int32} {s : mG} (hM : sub 36028693939748920 M) (h : KB M z s) : pk (F_X11_hang a1 a2 s) (fun τ => KB M z τ.2) := by
  unfold F_X11_hang
  refine pk_b1 pk_top (fun _ _ => ?_)
  refine pk_ite ?_ ?_
  · exact (W_X11_hang_44 (sub_tr (by decide +kernel) hM) h)
  · refine pk_b1 pk_top (fun _ _ => ?_)
    refine pk_ite ?_ ?_
    · exact (W_X11_hang_44 (sub_tr (by decide +kernel) hM) h)
    · refine pk_b1 pk_top (fun _ _ => ?_)
      refine pk_ite ?_ ?_
      · exact (W_X11_hang_44 (sub_tr (by decide +kernel) hM) h)
      · refine pk_b1 pk_top (fun _ _ => ?_)
        refine pk_ite ?_ ?_
        · refine pk_b1 (W_X5_keep (sub_tr (by decide +kernel) hM) h) (fun s_1 (h_2 : KB M z s_1) => ?_)
          refine pk_b1 (W_X10_put (sub_tr (by decide +kernel) hM) (hM 3 (by decide +kernel)) h_2) (fun s_3 (h_4 : KB M z s_3) => ?_)
          refine pk_b1 (W_X2_write (sub_tr (by decide +kernel) hM) (hM 4 (by decide +kernel)) (hM 5 (by decide +kernel)) h_4) (fun s_5 (h_6 : KB M z s_5) => ?_)
          exact pk_some h_6
        · exact (W_X11_hang_44 (sub_tr (by decide +kernel) hM) h)
theorem W_X11_looks_31 {M : Nat} {z : mG} {s : mG} (hM : sub 0 M) (h : KB M z s) : pk (F_X11_looks_31 s) (fun τ => KB M z τ.2) := by
  unfold F_X11_looks_31
  exact pk_some h
theorem W_X11_looks {M : Nat} {z : mG} {a1 : Int32} {a2 : Int32} {a3 : Int32} {s : mG} (hM : sub 36028693939748872 M) (h : KB M z s) : pk (F_X11_looks a1 a2 a3 s) (fun τ => KB M z τ.2) := by
  unfold F_X11_looks
  refine pk_b1 pk_top (fun _ _ => ?_)
  refine pk_ite ?_ ?_
  · exact (W_X11_looks_31 (sub_tr (by decide +kernel) hM) h)
  · refine pk_b1 pk_top (fun _ _ => ?_)
    refine pk_ite ?_ ?_
    · exact (W_X11_looks_31 (sub_tr (by decide +kernel) hM) h)
    · refine pk_b1 pk_top (fun _ _ => ?_)
      refine pk_ite ?_ ?_
      · exact (W_X11_looks_31 (sub_tr (by decide +kernel) hM) h)
      · refine pk_b1 pk_top (fun _ _ => ?_)
        refine pk_ite ?_ ?_
        · exact pk_some h
        · refine pk_b1 (W_X5_keep (sub_tr (by decide +kernel) hM) h) (fun s_1 (h_2 : KB M z s_1) => ?_)
          refine pk_b1 (W_X10_put (sub_tr (by decide +kernel) hM) (hM 3 (by decide +kernel)) h_2) (fun s_3 (h_4 : KB M z s_3) => ?_)
          exact pk_some h_4
theorem W_X11_hours_25 {M : Nat} {z : mG} {s : mG} (hM : sub 0 M) (h : KB M z s) : pk (F_X11_hours_25 s) (fun τ => KB M z τ.2) := by
  unfold F_X11_hours_25
  exact pk_some h
theorem W_X11_hours_B31 {M : Nat} {z : mG} {x1 : Int32} {x2 : Int32} {x3 : Int32} {s : mG} (hM : sub 6493289942639701917754 M) (h : KB M z s) : pk (F_X11_hours_B31 x1 x2 x3 s) (se (fun τ => KB M z τ.2.2.2) (fun τ => KB M z τ.2)) := by
  unfold F_X11_hours_B31
  refine pk_ite ?_ ?_
  · exact pk_some h
  · refine pk_b1 (W_X5_keep (sub_tr (by decide +kernel) hM) h) (fun s_1 (h_2 : KB M z s_1) => ?_)
    refine pk_b2 (W_X6_passHour (sub_tr (by decide +kernel) hM) h_2) (fun _ s_3 (h_4 : KB M z s_3) => ?_)
    exact pk_some h_4
theorem W_X11_hours_L31 {M : Nat} {z : mG} {x1 : Int32} {x2 : Int32} {x3 : Int32} {s : mG} (hM : sub 6493289942639701917754 M) (h : KB M z s) : pk (F_X11_hours_L31 x1 x2 x3 s) (fun τ => KB M z τ.2) := by
  unfold F_X11_hours_L31
  refine pk_whl (fun v => KB M z v.2.2.2) h (fun v hv => ?_)
  obtain ⟨y0, y1, y2, y3⟩ := v
  exact W_X11_hours_B31 (sub_tr (by decide +kernel) hM) hv
theorem W_X11_hours {M : Nat} {z : mG} {a1 : Int32} {s : mG} (hM : sub 6493289942639701917754 M) (h : KB M z s) : pk (F_X11_hours a1 s) (fun τ => KB M z τ.2) := by
  unfold F_X11_hours
  refine pk_b1 pk_top (fun _ _ => ?_)
  refine pk_ite ?_ ?_
  · exact (W_X11_hours_25 (sub_tr (by decide +kernel) hM) h)
  · refine pk_ite ?_ ?_
    · exact (W_X11_hours_L31 (sub_tr (by decide +kernel) hM) h)
    · exact (W_X11_hours_25 (sub_tr (by decide +kernel) hM) h)
theorem W_X11_feed {M : Nat} {z : mG} {a1 : Int32} {a2 : Int32} {a3 : Int32} {a4 : Int32} {a5 : Int32} {s : mG} (hM : sub 18482772870728515584 M) (h : KB M z s) : pk (F_X11_feed a1 a2 a3 a4 a5 s) (fun τ => KB M z τ.2) := by
  unfold F_X11_feed
  refine pk_b1 pk_top (fun _ _ => ?_)
  refine pk_ite ?_ ?_
  · exact pk_some h
  · refine pk_b1 (W_X7_takeFour (sub_tr (by decide +kernel) hM) h) (fun s_1 (h_2 : KB M z s_1) => ?_)
    refine pk_b1 (W_X7_takeFour (sub_tr (by decide +kernel) hM) h_2) (fun s_3 (h_4 : KB M z s_3) => ?_)
    refine pk_b1 (W_X7_takeFour (sub_tr (by decide +kernel) hM) h_4) (fun s_5 (h_6 : KB M z s_5) => ?_)
    refine pk_b1 (W_X7_takeFour (sub_tr (by decide +kernel) hM) h_6) (fun s_7 (h_8 : KB M z s_7) => ?_)
    refine pk_b1 (W_X7_takeFour (sub_tr (by decide +kernel) hM) h_8) (fun s_9 (h_10 : KB M z s_9) => ?_)
    exact pk_some h_10
theorem W_X11_end {M : Nat} {z : mG} {a1 : Int32} {s : mG} (hM : sub 36028797018963968 M) (h : KB M z s) : pk (F_X11_end a1 s) (fun τ => KB M z τ.2) := by
  unfold F_X11_end
  refine pk_b1 pk_top (fun _ _ => ?_)
  refine pk_ite ?_ ?_
  · exact pk_some h
  · extract_lets +onlyGivenNames s_1
    have h_2 : KB M z s_1 := KB_mu h (hM 55 (by decide +kernel))
    clear_value s_1
    exact pk_some h_2
theorem W_X11_text {M : Nat} {z : mG} {a1 : Int32} {s : mG} (hM : sub 276665132342984064968 M) (h : KB M z s) : pk (F_X11_text a1 s) (fun τ => KB M z τ.2) := by
  unfold F_X11_text
  refine pk_b2 (W_X7_readText (sub_tr (by decide +kernel) hM) h) (fun _ s_1 (h_2 : KB M z s_1) => ?_)
  extract_lets +onlyGivenNames s_3
  have h_4 : KB M z s_3 := KB_mu h_2 (hM 55 (by decide +kernel))
  clear_value s_3
  refine pk_ite ?_ ?_
  · exact pk_some h_4
  · refine pk_ite ?_ ?_
    · refine pk_b1 (W_X10_copyFrom (sub_tr (by decide +kernel) hM) (hM 6 (by decide +kernel)) (hM 7 (by decide +kernel)) h_4) (fun s_5 (h_6 : KB M z s_5) => ?_)
      refine pk_b1 (W_X10_copyFrom (sub_tr (by decide +kernel) hM) (hM 8 (by decide +kernel)) (hM 9 (by decide +kernel)) h_6) (fun s_7 (h_8 : KB M z s_7) => ?_)
      exact pk_some h_8
    · refine pk_b1 (W_X5_forget (sub_tr (by decide +kernel) hM) h_4) (fun s_9 (h_10 : KB M z s_9) => ?_)
      refine pk_ite ?_ ?_
      · refine pk_b1 (W_X10_copyFrom (sub_tr (by decide +kernel) hM) (hM 10 (by decide +kernel)) (hM 11 (by decide +kernel)) h_10) (fun s_11 (h_12 : KB M z s_11) => ?_)
        refine pk_b1 (W_X2_forgetSeen (sub_tr (by decide +kernel) hM) (hM 3 (by decide +kernel)) h_12) (fun s_13 (h_14 : KB M z s_13) => ?_)
        exact pk_some h_14
      · refine pk_b1 (W_X10_copyFrom (sub_tr (by decide +kernel) hM) (hM 12 (by decide +kernel)) (hM 13 (by decide +kernel)) h_10) (fun s_15 (h_16 : KB M z s_15) => ?_)
        exact pk_some h_16
theorem W_X11_caller_63 {M : Nat} {z : mG} {s : mG} (hM : sub 0 M) (h : KB M z s) : pk (F_X11_caller_63 s) (fun τ => KB M z τ.2) := by
  unfold F_X11_caller_63
  exact pk_some h
theorem W_X11_caller {M : Nat} {z : mG} {a1 : Int32} {a2 : Int32} {a3 : Int32} {s : mG} (hM : sub 196608 M) (h : KB M z s) : pk (F_X11_caller a1 a2 a3 s) (fun τ => KB M z τ.2) := by
  unfold F_X11_caller
  refine pk_ite ?_ ?_
  · refine pk_b1 (W_X10_clear (sub_tr (by decide +kernel) hM) (hM 16 (by decide +kernel)) h) (fun s_1 (h_2 : KB M z s_1) => ?_)
    exact pk_some h_2
  · refine pk_b1 pk_top (fun _ _ => ?_)
    refine pk_ite ?_ ?_
    · exact (W_X11_caller_63 (sub_tr (by decide +kernel) hM) h)
    · refine pk_b1 pk_top (fun _ _ => ?_)
      refine pk_ite ?_ ?_
      · exact (W_X11_caller_63 (sub_tr (by decide +kernel) hM) h)
      · refine pk_b1 pk_top (fun _ _ => ?_)
        refine pk_ite ?_ ?_
        · exact (W_X11_caller_63 (sub_tr (by decide +kernel) hM) h)
        · refine pk_b1 pk_top (fun _ _ => ?_)
          refine pk_ite ?_ ?_
          · refine pk_b2 (W_X10_add (sub_tr (by decide +kernel) hM) (hM 16 (by decide +kernel)) h) (fun _ s_3 (h_4 : KB M z s_3) => ?_)
            refine pk_b1 (W_X10_put (sub_tr (by decide +kernel) hM) (hM 17 (by decide +kernel)) h_4) (fun s_5 (h_6 : KB M z s_5) => ?_)
            refine pk_b1 (W_X10_put (sub_tr (by decide +kernel) hM) (hM 17 (by decide +kernel)) h_6) (fun s_7 (h_8 : KB M z s_7) => ?_)
            refine pk_b1 (W_X10_put (sub_tr (by decide +kernel) hM) (hM 17 (by decide +kernel)) h_8) (fun s_9 (h_10 : KB M z s_9) => ?_)
            exact pk_some h_10
          · exact (W_X11_caller_63 (sub_tr (by decide +kernel) hM) h)
theorem W_X11_room_73 {M : Nat} {z : mG} {s : mG} (hM : sub 0 M) (h : KB M z s) : pk (F_X11_room_73 s) (fun τ => KB M z τ.2) := by
  unfold F_X11_room_73
  exact pk_some h
theorem W_X11_room {M : Nat} {z : mG} {a1 : Int32} {a2 : Int32} {a3 : Int32} {a4 : Int32} {s : mG} (hM : sub 49152 M) (h : KB M z s) : pk (F_X11_room a1 a2 a3 a4 s) (fun τ => KB M z τ.2) := by
  unfold F_X11_room
  refine pk_ite ?_ ?_
  · refine pk_b1 (W_X10_clear (sub_tr (by decide +kernel) hM) (hM 14 (by decide +kernel)) h) (fun s_1 (h_2 : KB M z s_1) => ?_)
    exact pk_some h_2
  · refine pk_b1 pk_top (fun _ _ => ?_)
    refine pk_ite ?_ ?_
    · exact (W_X11_room_73 (sub_tr (by decide +kernel) hM) h)
    · refine pk_b1 pk_top (fun _ _ => ?_)
      refine pk_ite ?_ ?_
      · exact (W_X11_room_73 (sub_tr (by decide +kernel) hM) h)
      · refine pk_b1 pk_top (fun _ _ => ?_)
        refine pk_ite ?_ ?_
        · exact (W_X11_room_73 (sub_tr (by decide +kernel) hM) h)
        · refine pk_b1 pk_top (fun _ _ => ?_)
          refine pk_ite ?_ ?_
          · exact (W_X11_room_73 (sub_tr (by decide +kernel) hM) h)
          · refine pk_b1 pk_top (fun _ _ => ?_)
            refine pk_ite ?_ ?_
            · refine pk_b2 (W_X10_add (sub_tr (by decide +kernel) hM) (hM 14 (by decide +kernel)) h) (fun _ s_3 (h_4 : KB M z s_3) => ?_)
              refine pk_b1 (W_X10_put (sub_tr (by decide +kernel) hM) (hM 15 (by decide +kernel)) h_4) (fun s_5 (h_6 : KB M z s_5) => ?_)
              refine pk_b1 (W_X10_put (sub_tr (by decide +kernel) hM) (hM 15 (by decide +kernel)) h_6) (fun s_7 (h_8 : KB M z s_7) => ?_)
              refine pk_b1 (W_X10_put (sub_tr (by decide +kernel) hM) (hM 15 (by decide +kernel)) h_8) (fun s_9 (h_10 : KB M z s_9) => ?_)
              refine pk_b1 (W_X10_put (sub_tr (by decide +kernel) hM) (hM 15 (by decide +kernel)) h_10) (fun s_11 (h_12 : KB M z s_11) => ?_)
              exact pk_some h_12
            · exact (W_X11_room_73 (sub_tr (by decide +kernel) hM) h)
theorem W_X11_undo {M : Nat} {z : mG} {s : mG} (hM : sub 34359738398 M) (h : KB M z s) : pk (F_X11_undo s) (fun τ => KB M z τ.2) := by
  unfold F_X11_undo
  refine pk_b2 (W_X5_giveBack (sub_tr (by decide +kernel) hM) (hM 1 (by decide +kernel)) (hM 2 (by decide +kernel)) (hM 3 (by decide +kernel)) (hM 4 (by decide +kernel)) h) (fun _ s_1 (h_2 : KB M z s_1) => ?_)
  refine pk_pp ?_
  exact pk_some h_2
theorem W_X11_image {M : Nat} {z : mG} {a1 : Int32} {s : mG} (hM : sub 68719476735 M) (h : KB M z s) : pk (F_X11_image a1 s) (fun τ => KB M z τ.2) := by
  unfold F_X11_image
  refine pk_ite ?_ ?_
  · refine pk_ite ?_ ?_
    · exact pk_some h
    · refine pk_b1 (W_X2_copyFrom (sub_tr (by decide +kernel) hM) (hM 1 (by decide +kernel)) (hM 2 (by decide +kernel)) (hM 3 (by decide +kernel)) (hM 4 (by decide +kernel)) (hM 5 (by decide +kernel)) (hM 6 (by decide +kernel)) (hM 7 (by decide +kernel)) (hM 8 (by decide +kernel)) (hM 9 (by decide +kernel)) (hM 10 (by decide +kernel)) (hM 11 (by decide +kernel)) (hM 12 (by decide +kernel)) (hM 13 (by decide +kernel)) (hM 14 (by decide +kernel)) (hM 15 (by decide +kernel)) (hM 16 (by decide +kernel)) (hM 17 (by decide +kernel)) h) (fun s_1 (h_2 : KB M z s_1) => ?_)
      refine pk_b1 (W_X5_forget (sub_tr (by decide +kernel) hM) h_2) (fun s_3 (h_4 : KB M z s_3) => ?_)
      exact pk_some h_4
  · refine pk_b1 (W_X2_copyFrom (sub_tr (by decide +kernel) hM) (hM 18 (by decide +kernel)) (hM 19 (by decide +kernel)) (hM 20 (by decide +kernel)) (hM 21 (by decide +kernel)) (hM 22 (by decide +kernel)) (hM 23 (by decide +kernel)) (hM 24 (by decide +kernel)) (hM 25 (by decide +kernel)) (hM 26 (by decide +kernel)) (hM 27 (by decide +kernel)) (hM 28 (by decide +kernel)) (hM 29 (by decide +kernel)) (hM 30 (by decide +kernel)) (hM 31 (by decide +kernel)) (hM 32 (by decide +kernel)) (hM 33 (by decide +kernel)) (hM 34 (by decide +kernel)) h) (fun s_5 (h_6 : KB M z s_5) => ?_)
    extract_lets +onlyGivenNames s_7
    have h_8 : KB M z s_7 := KB_mu h_6 (hM 0 (by decide +kernel))
    clear_value s_7
    exact pk_some h_8
theorem W_X11_of {M : Nat} {z : mG} {a1 : Int32} {a2 : Int32} {s : mG} (hM : sub 20660353362554697809920 M) (h : KB M z s) : pk (F_X11_of a1 a2 s) (fun τ => KB M z τ.2) := by
  unfold F_X11_of
  refine pk_b1 pk_top (fun _ _ => ?_)
  refine pk_ite ?_ ?_
  · exact pk_some h
  · refine pk_b1 pk_top (fun _ _ => ?_)
    refine pk_ite ?_ ?_
    · refine pk_ite ?_ ?_
      · refine pk_b2 (W_X0_sureOf (sub_tr (by decide +kernel) hM) h) (fun _ s_1 (h_2 : KB M z s_1) => ?_)
        exact pk_some h_2
      · refine pk_b1 pk_top (fun _ _ => ?_)
        refine pk_ite ?_ ?_
        · exact pk_some h
        · refine pk_b1 (W_X3_face (sub_tr (by decide +kernel) hM) h) (fun s_3 (h_4 : KB M z s_3) => ?_)
          refine pk_b2 (W_X3_tells (sub_tr (by decide +kernel) hM) h_4) (fun _ s_5 (h_6 : KB M z s_5) => ?_)
          exact pk_some h_6
    · refine pk_b1 pk_top (fun _ _ => ?_)
      exact pk_some h
theorem W_X11_next {M : Nat} {z : mG} {a1 : Int32} {s : mG} (hM : sub 20660353362554697809920 M) (h : KB M z s) : pk (F_X11_next a1 s) (fun τ => KB M z τ.2) := by
  unfold F_X11_next
  refine pk_b1 pk_top (fun _ _ => ?_)
  refine pk_ite ?_ ?_
  · exact pk_some h
  · refine pk_b2 (W_X0_signAt (sub_tr (by decide +kernel) hM) h) (fun _ s_1 (h_2 : KB M z s_1) => ?_)
    exact pk_some h_2
theorem W_X11_looksAt_27 {M : Nat} {z : mG} {s : mG} (hM : sub 0 M) (h : KB M z s) : pk (F_X11_looksAt_27 s) (fun τ => KB M z τ.2) := by
  unfold F_X11_looksAt_27
  exact pk_some h
theorem W_X11_looksAt {M : Nat} {z : mG} {a1 : Int32} {a2 : Int32} {s : mG} (hM : sub 20660353362554697809920 M) (h : KB M z s) : pk (F_X11_looksAt a1 a2 s) (fun τ => KB M z τ.2) := by
  unfold F_X11_looksAt
  refine pk_b1 pk_top (fun _ _ => ?_)
  refine pk_ite ?_ ?_
  · exact (W_X11_looksAt_27 (sub_tr (by decide +kernel) hM) h)
  · refine pk_ite ?_ ?_
    · exact (W_X11_looksAt_27 (sub_tr (by decide +kernel) hM) h)
    · refine pk_b2 (W_X0_signAt (sub_tr (by decide +kernel) hM) h) (fun _ s_1 (h_2 : KB M z s_1) => ?_)
      exact pk_some h_2
theorem W_X11_say_33 {M : Nat} {z : mG} {s : mG} (hM : sub 0 M) (h : KB M z s) : pk (F_X11_say_33 s) (fun τ => KB M z τ.2) := by
  unfold F_X11_say_33
  exact pk_some h
theorem W_X11_say {M : Nat} {z : mG} {a1 : Int32} {a2 : Int32} {a3 : Int32} {s : mG} (hM : sub 20660353362554697809920 M) (h : KB M z s) : pk (F_X11_say a1 a2 a3 s) (fun τ => KB M z τ.2) := by
  unfold F_X11_say
  refine pk_b1 pk_top (fun _ _ => ?_)
  refine pk_ite ?_ ?_
  · exact (W_X11_say_33 (sub_tr (by decide +kernel) hM) h)
  · refine pk_b1 pk_top (fun _ _ => ?_)
    refine pk_ite ?_ ?_
    · exact (W_X11_say_33 (sub_tr (by decide +kernel) hM) h)
    · refine pk_b1 pk_top (fun _ _ => ?_)
      refine pk_ite ?_ ?_
      · exact (W_X11_say_33 (sub_tr (by decide +kernel) hM) h)
      · refine pk_b2 (W_X0_saysIn (sub_tr (by decide +kernel) hM) h) (fun _ s_1 (h_2 : KB M z s_1) => ?_)
        refine pk_ite ?_ ?_
        · exact pk_some h_2
        · exact pk_some h_2
theorem W_X11_said_23 {M : Nat} {z : mG} {y1 : Int32} {s : mG} (hM : sub 20660353362554697809920 M) (h : KB M z s) : pk (F_X11_said_23 y1 s) (fun τ => KB M z τ.2) := by
  unfold F_X11_said_23
  refine pk_b2 (W_X0_saidToAll (sub_tr (by decide +kernel) hM) h) (fun _ s_1 (h_2 : KB M z s_1) => ?_)
  exact pk_some h_2
theorem W_X11_said {M : Nat} {z : mG} {a1 : Int32} {s : mG} (hM : sub 20660353362554697809920 M) (h : KB M z s) : pk (F_X11_said a1 s) (fun τ => KB M z τ.2) := by
  unfold F_X11_said
  refine pk_b1 pk_top (fun _ _ => ?_)
  refine pk_ite ?_ ?_
  · exact pk_some h
  · refine pk_ite ?_ ?_
    · exact (W_X11_said_23 (sub_tr (by decide +kernel) hM) h)
    · exact (W_X11_said_23 (sub_tr (by decide +kernel) hM) h)
theorem W_X11_many {M : Nat} {z : mG} {a1 : Int32} {s : mG} (hM : sub 133997148951426182938624 M) (h : KB M z s) : pk (F_X11_many a1 s) (fun τ => KB M z τ.2) := by
  unfold F_X11_many
  refine pk_ite ?_ ?_
  · refine pk_b2 (W_X0_sumOfSure (sub_tr (by decide +kernel) hM) h) (fun _ s_1 (h_2 : KB M z s_1) => ?_)
    exact pk_some h_2
  · refine pk_ite ?_ ?_
    · refine pk_b2 (W_X0_likeliest (sub_tr (by decide +kernel) hM) h) (fun _ s_3 (h_4 : KB M z s_3) => ?_)
      exact pk_some h_4
    · refine pk_ite ?_ ?_
      · refine pk_b2 (W_X0_likeliest (sub_tr (by decide +kernel) hM) h) (fun _ s_5 (h_6 : KB M z s_5) => ?_)
        exact pk_some h_6
      · exact pk_some h
theorem W_X11_span_20 {M : Nat} {z : mG} {s : mG} (hM : sub 0 M) (h : KB M z s) : pk (F_X11_span_20 s) (fun τ => KB M z τ.2) := by
  unfold F_X11_span_20
  exact pk_some h
theorem W_X11_span_37 {M : Nat} {z : mG} {y1 : Int32} {y2 : Int32} {s : mG} (hM : sub 133997148951426182938624 M) (h : KB M z s) : pk (F_X11_span_37 y1 y2 s) (fun τ => KB M z τ.2) := by
  unfold F_X11_span_37
  refine pk_b2 (W_X0_spanEdge (sub_tr (by decide +kernel) hM) h) (fun _ s_1 (h_2 : KB M z s_1) => ?_)
  exact pk_some h_2
theorem W_X11_span {M : Nat} {z : mG} {a1 : Int32} {a2 : Int32} {s : mG} (hM : sub 133997148951426182938624 M) (h : KB M z s) : pk (F_X11_span a1 a2 s) (fun τ => KB M z τ.2) := by
  unfold F_X11_span
  refine pk_b1 pk_top (fun _ _ => ?_)
  refine pk_ite ?_ ?_
  · exact (W_X11_span_20 (sub_tr (by decide +kernel) hM) h)
  · refine pk_b1 pk_top (fun _ _ => ?_)
    refine pk_ite ?_ ?_
    · exact (W_X11_span_20 (sub_tr (by decide +kernel) hM) h)
    · refine pk_ite ?_ ?_
      · exact (W_X11_span_37 (sub_tr (by decide +kernel) hM) h)
      · exact (W_X11_span_37 (sub_tr (by decide +kernel) hM) h)
theorem W_X11_counted_21 {M : Nat} {z : mG} {s : mG} (hM : sub 0 M) (h : KB M z s) : pk (F_X11_counted_21 s) (fun τ => KB M z τ.2) := by
  unfold F_X11_counted_21
  exact pk_some h
theorem W_X11_counted {M : Nat} {z : mG} {a1 : Int32} {a2 : Int32} {s : mG} (hM : sub 133997148951426182938624 M) (h : KB M z s) : pk (F_X11_counted a1 a2 s) (fun τ => KB M z τ.2) := by
  unfold F_X11_counted
  refine pk_b1 pk_top (fun _ _ => ?_)
  refine pk_ite ?_ ?_
  · exact (W_X11_counted_21 (sub_tr (by decide +kernel) hM) h)
  · refine pk_b1 pk_top (fun _ _ => ?_)
    refine pk_ite ?_ ?_
    · exact (W_X11_counted_21 (sub_tr (by decide +kernel) hM) h)
    · refine pk_b2 (W_X0_amongCounted (sub_tr (by decide +kernel) hM) h) (fun _ s_1 (h_2 : KB M z s_1) => ?_)
      exact pk_some h_2
theorem W_X11_empty {M : Nat} {z : mG} {a1 : Int32} {s : mG} (hM : sub 96218217088469021229056 M) (h : KB M z s) : pk (F_X11_empty a1 s) (fun τ => KB M z τ.2) := by
  unfold F_X11_empty
  refine pk_b1 pk_top (fun _ _ => ?_)
  refine pk_ite ?_ ?_
  · exact pk_some h
  · refine pk_b2 (W_X0_emptyChance (sub_tr (by decide +kernel) hM) h) (fun _ s_1 (h_2 : KB M z s_1) => ?_)
    exact pk_some h_2
theorem W_X11_pair_23 {M : Nat} {z : mG} {s : mG} (hM : sub 0 M) (h : KB M z s) : pk (F_X11_pair_23 s) (fun τ => KB M z τ.2) := by
  unfold F_X11_pair_23
  exact pk_some h
theorem W_X11_pair {M : Nat} {z : mG} {a1 : Int32} {s : mG} (hM : sub 96218217088469021229056 M) (h : KB M z s) : pk (F_X11_pair a1 s) (fun τ => KB M z τ.2) := by
  unfold F_X11_pair
  refine pk_b1 pk_top (fun _ _ => ?_)
  refine pk_ite ?_ ?_
  · exact (W_X11_pair_23 (sub_tr (by decide +kernel) hM) h)
  · refine pk_ite ?_ ?_
    · refine pk_b2 (W_X0_bestPair (sub_tr (by decide +kernel) hM) h) (fun _ s_1 (h_2 : KB M z s_1) => ?_)
      exact pk_some h_2
    · exact (W_X11_pair_23 (sub_tr (by decide +kernel) hM) h)
theorem W_X11_lack {M : Nat} {z : mG} {a1 : Int32} {s : mG} (hM : sub 96218217088469021229056 M) (h : KB M z s) : pk (F_X11_lack a1 s) (fun τ => KB M z τ.2) := by
  unfold F_X11_lack
  refine pk_ite ?_ ?_
  · refine pk_b1 pk_top (fun _ _ => ?_)
    refine pk_b1 pk_top (fun _ _ => ?_)
    exact pk_some h
  · refine pk_ite ?_ ?_
    · refine pk_b2 (W_X0_keylessOut (sub_tr (by decide +kernel) hM) h) (fun _ s_1 (h_2 : KB M z s_1) => ?_)
      exact pk_some h_2
    · refine pk_ite ?_ ?_
      · refine pk_b1 pk_top (fun _ _ => ?_)
        refine pk_b1 pk_top (fun _ _ => ?_)
        refine pk_b1 pk_top (fun _ _ => ?_)
        exact pk_some h
      · exact pk_some h
theorem W_X11_visit_20 {M : Nat} {z : mG} {s : mG} (hM : sub 0 M) (h : KB M z s) : pk (F_X11_visit_20 s) (fun τ => KB M z τ.2) := by
  unfold F_X11_visit_20
  exact pk_some h
theorem W_X11_visit_45 {M : Nat} {z : mG} {y1 : Int32} {y2 : Int32} {y3 : Int32} {s : mG} (hM : sub 1770887431076116955136 M) (h : KB M z s) : pk (F_X11_visit_45 y1 y2 y3 s) (fun τ => KB M z τ.2) := by
  unfold F_X11_visit_45
  refine pk_b2 (W_X1_bestVisit (sub_tr (by decide +kernel) hM) h) (fun _ s_1 (h_2 : KB M z s_1) => ?_)
  exact pk_some h_2
theorem W_X11_visit {M : Nat} {z : mG} {a1 : Int32} {a2 : Int32} {s : mG} (hM : sub 20660353362554697809920 M) (h : KB M z s) : pk (F_X11_visit a1 a2 s) (fun τ => KB M z τ.2) := by
  unfold F_X11_visit
  refine pk_b1 pk_top (fun _ _ => ?_)
  refine pk_ite ?_ ?_
  · exact (W_X11_visit_20 (sub_tr (by decide +kernel) hM) h)
  · refine pk_b1 pk_top (fun _ _ => ?_)
    refine pk_ite ?_ ?_
    · exact (W_X11_visit_20 (sub_tr (by decide +kernel) hM) h)
    · refine pk_b2 (W_X0_sureOf (sub_tr (by decide +kernel) hM) h) (fun _ s_1 (h_2 : KB M z s_1) => ?_)
      refine pk_ite ?_ ?_
      · exact (W_X11_visit_45 (sub_tr (by decide +kernel) hM) h_2)
      · exact (W_X11_visit_45 (sub_tr (by decide +kernel) hM) h_2)
theorem W_X11_expect {M : Nat} {z : mG} {s : mG} (hM : sub 1770887431076116955136 M) (h : KB M z s) : pk (F_X11_expect s) (fun τ => KB M z τ.2) := by
  unfold F_X11_expect
  refine pk_b2 (W_X1_movesNow (sub_tr (by decide +kernel) hM) h) (fun _ s_1 (h_2 : KB M z s_1) => ?_)
  exact pk_some h_2
theorem W_X11_busy {M : Nat} {z : mG} {a1 : Int32} {s : mG} (hM : sub 1770887431076116955136 M) (h : KB M z s) : pk (F_X11_busy a1 s) (fun τ => KB M z τ.2) := by
  unfold F_X11_busy
  refine pk_ite ?_ ?_
  · refine pk_b2 (W_X1_busiestClock (sub_tr (by decide +kernel) hM) h) (fun _ s_1 (h_2 : KB M z s_1) => ?_)
    exact pk_some h_2
  · refine pk_ite ?_ ?_
    · refine pk_b2 (W_X1_busiestClock (sub_tr (by decide +kernel) hM) h) (fun _ s_3 (h_4 : KB M z s_3) => ?_)
      refine pk_b2 (W_X1_movesAt (sub_tr (by decide +kernel) hM) h_4) (fun _ s_5 (h_6 : KB M z s_5) => ?_)
      exact pk_some h_6
    · exact pk_some h
theorem W_X11_tagCost_32 {M : Nat} {z : mG} {s : mG} (hM : sub 0 M) (h : KB M z s) : pk (F_X11_tagCost_32 s) (fun τ => KB M z τ.2) := by
  unfold F_X11_tagCost_32
  exact pk_some h
theorem W_X11_tagCost {M : Nat} {z : mG} {a1 : Int32} {a2 : Int32} {a3 : Int32} {s : mG} (hM : sub 1770887431076116955136 M) (h : KB M z s) : pk (F_X11_tagCost a1 a2 a3 s) (fun τ => KB M z τ.2) := by
  unfold F_X11_tagCost
  refine pk_b1 pk_top (fun _ _ => ?_)
  refine pk_ite ?_ ?_
  · exact (W_X11_tagCost_32 (sub_tr (by decide +kernel) hM) h)
  · refine pk_b1 pk_top (fun _ _ => ?_)
    refine pk_ite ?_ ?_
    · exact (W_X11_tagCost_32 (sub_tr (by decide +kernel) hM) h)
    · refine pk_b1 pk_top (fun _ _ => ?_)
      refine pk_ite ?_ ?_
      · exact (W_X11_tagCost_32 (sub_tr (by decide +kernel) hM) h)
      · refine pk_b2 (W_X1_costOfTag (sub_tr (by decide +kernel) hM) h) (fun _ s_1 (h_2 : KB M z s_1) => ?_)
        exact pk_some h_2
theorem W_X11_tag_22 {M : Nat} {z : mG} {s : mG} (hM : sub 0 M) (h : KB M z s) : pk (F_X11_tag_22 s) (fun τ => KB M z τ.2) := by
  unfold F_X11_tag_22
  exact pk_some h
theorem W_X11_tag {M : Nat} {z : mG} {a1 : Int32} {a2 : Int32} {s : mG} (hM : sub 1770887431076116955136 M) (h : KB M z s) : pk (F_X11_tag a1 a2 s) (fun τ => KB M z τ.2) := by
  unfold F_X11_tag
  refine pk_b1 pk_top (fun _ _ => ?_)
  refine pk_ite ?_ ?_
  · exact (W_X11_tag_22 (sub_tr (by decide +kernel) hM) h)
  · refine pk_b1 pk_top (fun _ _ => ?_)
    refine pk_ite ?_ ?_
    · exact (W_X11_tag_22 (sub_tr (by decide +kernel) hM) h)
    · refine pk_b2 (W_X1_bestTag (sub_tr (by decide +kernel) hM) h) (fun _ s_1 (h_2 : KB M z s_1) => ?_)
      exact pk_some h_2
theorem W_X11_stands_26 {M : Nat} {z : mG} {s : mG} (hM : sub 0 M) (h : KB M z s) : pk (F_X11_stands_26 s) (fun τ => KB M z τ.2) := by
  unfold F_X11_stands_26
  exact pk_some h
theorem W_X11_stands_28 {M : Nat} {z : mG} {x1 : Int32} {x2 : Int32} {s : mG} (hM : sub 4535242710985935522103296 M) (h : KB M z s) : pk (F_X11_stands_28 x1 x2 s) (fun τ => KB M z τ.2) := by
  unfold F_X11_stands_28
  refine pk_b1 (W_X1_plan (sub_tr (by decide +kernel) hM) h) (fun s_1 (h_2 : KB M z s_1) => ?_)
  refine pk_ite ?_ ?_
  · refine pk_b1 pk_top (fun _ _ => ?_)
    exact pk_some h_2
  · refine pk_b1 pk_top (fun _ _ => ?_)
    exact pk_some h_2
theorem W_X11_stands {M : Nat} {z : mG} {a1 : Int32} {a2 : Int32} {s : mG} (hM : sub 4535242710985935522103296 M) (h : KB M z s) : pk (F_X11_stands a1 a2 s) (fun τ => KB M z τ.2) := by
  unfold F_X11_stands
  refine pk_b1 pk_top (fun _ _ => ?_)
  refine pk_ite ?_ ?_
  · exact (W_X11_stands_26 (sub_tr (by decide +kernel) hM) h)
  · refine pk_ite ?_ ?_
    · exact (W_X11_stands_28 (sub_tr (by decide +kernel) hM) h)
    · refine pk_b1 pk_top (fun _ _ => ?_)
      refine pk_ite ?_ ?_
      · exact (W_X11_stands_26 (sub_tr (by decide +kernel) hM) h)
      · exact (W_X11_stands_28 (sub_tr (by decide +kernel) hM) h)
theorem W_X11_carries {M : Nat} {z : mG} {s : mG} (hM : sub 1770887431076116955136 M) (h : KB M z s) : pk (F_X11_carries s) (fun τ => KB M z τ.2) := by
  unfold F_X11_carries
  refine pk_b2 (W_X1_likeliestToCarry (sub_tr (by decide +kernel) hM) h) (fun _ s_1 (h_2 : KB M z s_1) => ?_)
  exact pk_some h_2
theorem W_X11_away_32 {M : Nat} {z : mG} {s : mG} (hM : sub 0 M) (h : KB M z s) : pk (F_X11_away_32 s) (fun τ => KB M z τ.2) := by
  unfold F_X11_away_32
  exact pk_some h
theorem W_X11_away {M : Nat} {z : mG} {a1 : Int32} {a2 : Int32} {s : mG} (hM : sub 1770887431076116955136 M) (h : KB M z s) : pk (F_X11_away a1 a2 s) (fun τ => KB M z τ.2) := by
  unfold F_X11_away
  refine pk_b1 pk_top (fun _ _ => ?_)
  refine pk_ite ?_ ?_
  · exact (W_X11_away_32 (sub_tr (by decide +kernel) hM) h)
  · refine pk_b1 pk_top (fun _ _ => ?_)
    refine pk_ite ?_ ?_
    · exact (W_X11_away_32 (sub_tr (by decide +kernel) hM) h)
    · refine pk_b1 pk_top (fun _ _ => ?_)
      refine pk_ite ?_ ?_
      · exact (W_X11_away_32 (sub_tr (by decide +kernel) hM) h)
      · refine pk_b2 (W_X1_stillOut (sub_tr (by decide +kernel) hM) h) (fun _ s_1 (h_2 : KB M z s_1) => ?_)
        exact pk_some h_2
theorem W_X11_knocks {M : Nat} {z : mG} {a1 : Int32} {s : mG} (hM : sub 19363473467196621493108736 M) (h : KB M z s) : pk (F_X11_knocks a1 s) (fun τ => KB M z τ.2) := by
  unfold F_X11_knocks
  refine pk_b2 (W_X9_roomAt (sub_tr (by decide +kernel) hM) h) (fun _ s_1 (h_2 : KB M z s_1) => ?_)
  exact pk_some h_2
theorem W_X11_fire_87 {M : Nat} {z : mG} {s : mG} (hM : sub 0 M) (h : KB M z s) : pk (F_X11_fire_87 s) (fun τ => KB M z τ.2) := by
  unfold F_X11_fire_87
  exact pk_some h
theorem W_X11_fire {M : Nat} {z : mG} {a1 : Int32} {a2 : Int32} {s : mG} (hM : sub 280491450503956523229642752 M) (h : KB M z s) : pk (F_X11_fire a1 a2 s) (fun τ => KB M z τ.2) := by
  unfold F_X11_fire
  refine pk_b1 pk_top (fun _ _ => ?_)
  refine pk_ite ?_ ?_
  · exact pk_some h
  · refine pk_b1 (W_X9_searchFloors (sub_tr (by decide +kernel) hM) h) (fun s_1 (h_2 : KB M z s_1) => ?_)
    refine pk_ite ?_ ?_
    · extract_lets +onlyGivenNames v_3
      clear_value v_3
      exact pk_some h_2
    · refine pk_ite ?_ ?_
      · exact pk_some h_2
      · refine pk_ite ?_ ?_
        · exact (W_X11_fire_87 (sub_tr (by decide +kernel) hM) h_2)
        · refine pk_ite ?_ ?_
          · exact (W_X11_fire_87 (sub_tr (by decide +kernel) hM) h_2)
          · refine pk_b1 pk_top (fun _ _ => ?_)
            exact pk_some h_2
theorem W_X12_forgets {M : Nat} {z : mG} {s : mG} (hM : sub 309485009821345068724781056 M) (h : KB M z s) : pk (F_X12_forgets s) (fun τ => KB M z τ) := by
  unfold F_X12_forgets
  extract_lets +onlyGivenNames s_1
  have h_2 : KB M z s_1 := KB_mu h (hM 88 (by decide +kernel))
  clear_value s_1
  exact pk_some h_2
theorem W_X12_state {M : Nat} {z : mG} {a1 : Int32} {s : mG} (hM : sub 928455029464035206174343168 M) (h : KB M z s) : pk (F_X12_state a1 s) (fun τ => KB M z τ.2) := by
  unfold F_X12_state
  extract_lets +onlyGivenNames s_1
  have h_2 : KB M z s_1 := KB_mu h (hM 89 (by decide +kernel))
  clear_value s_1
  refine pk_b1 (W_X12_forgets (sub_tr (by decide +kernel) hM) h_2) (fun s_3 (h_4 : KB M z s_3) => ?_)
  exact pk_some h_4
theorem W_X12_draw {M : Nat} {z : mG} {a1 : Int32} {s : mG} (hM : sub 618970019642690137449562112 M) (h : KB M z s) : pk (F_X12_draw a1 s) (fun τ => KB M z τ.2) := by
  unfold F_X12_draw
  extract_lets +onlyGivenNames s_1
  have h_2 : KB M z s_1 := KB_mu h (hM 89 (by decide +kernel))
  clear_value s_1
  refine pk_nn ?_
  extract_lets +onlyGivenNames v_3
  clear_value v_3
  exact pk_some h_2
theorem W_X12_guest_31 {M : Nat} {z : mG} {s : mG} (hM : sub 0 M) (h : KB M z s) : pk (F_X12_guest_31 s) (fun τ => KB M z τ.2) := by
  unfold F_X12_guest_31
  exact pk_some h
theorem W_X12_guest_B94 {M : Nat} {z : mG} {x3 : Int32} {x4 : Int32} {s : mG} (hM : sub 928455029464035206174343168 M) (h : KB M z s) : pk (F_X12_guest_B94 x3 x4 s) (se (fun τ => KB M z τ.2.2) (fun τ => KB M z τ.2)) := by
  unfold F_X12_guest_B94
  refine pk_ite ?_ ?_
  · extract_lets +onlyGivenNames s_1
    have h_2 : KB M z s_1 := KB_mu h (hM 89 (by decide +kernel))
    clear_value s_1
    refine pk_b1 (W_X12_forgets (sub_tr (by decide +kernel) hM) h_2) (fun s_3 (h_4 : KB M z s_3) => ?_)
    exact pk_some h_4
  · refine pk_nn ?_
    extract_lets +onlyGivenNames s_5
    have h_6 : KB M z s_5 := KB_mu h (hM 89 (by decide +kernel))
    clear_value s_5
    exact pk_some h_6
theorem W_X12_guest_L94 {M : Nat} {z : mG} {x3 : Int32} {x4 : Int32} {s : mG} (hM : sub 928455029464035206174343168 M) (h : KB M z s) : pk (F_X12_guest_L94 x3 x4 s) (fun τ => KB M z τ.2) := by
  unfold F_X12_guest_L94
  refine pk_whl (fun v => KB M z v.2.2) h (fun v hv => ?_)
  obtain ⟨y0, y1, y2⟩ := v
  exact W_X12_guest_B94 (sub_tr (by decide +kernel) hM) hv
theorem W_X12_guest {M : Nat} {z : mG} {a1 : Int32} {a2 : Int32} {s : mG} (hM : sub 928455029464035206174343168 M) (h : KB M z s) : pk (F_X12_guest a1 a2 s) (fun τ => KB M z τ.2) := by
  unfold F_X12_guest
  refine pk_b1 pk_top (fun _ _ => ?_)
  refine pk_ite ?_ ?_
  · exact (W_X12_guest_31 (sub_tr (by decide +kernel) hM) h)
  · refine pk_b1 pk_top (fun _ _ => ?_)
    refine pk_ite ?_ ?_
    · exact (W_X12_guest_31 (sub_tr (by decide +kernel) hM) h)
    · refine pk_ite ?_ ?_
      · exact (W_X12_guest_31 (sub_tr (by decide +kernel) hM) h)
      · refine pk_nn ?_
        extract_lets +onlyGivenNames s_1
        have h_2 : KB M z s_1 := KB_mu h (hM 89 (by decide +kernel))
        clear_value s_1
        refine pk_nn ?_
        extract_lets +onlyGivenNames s_3
        have h_4 : KB M z s_3 := KB_mu h_2 (hM 89 (by decide +kernel))
        clear_value s_3
        refine pk_nn ?_
        extract_lets +onlyGivenNames s_5
        have h_6 : KB M z s_5 := KB_mu h_4 (hM 89 (by decide +kernel))
        clear_value s_5
        refine pk_nn ?_
        extract_lets +onlyGivenNames s_7
        have h_8 : KB M z s_7 := KB_mu h_6 (hM 89 (by decide +kernel))
        clear_value s_7
        refine pk_nn ?_
        extract_lets +onlyGivenNames s_9
        have h_10 : KB M z s_9 := KB_mu h_8 (hM 89 (by decide +kernel))
        clear_value s_9
        exact (W_X12_guest_L94 (sub_tr (by decide +kernel) hM) h_10)
theorem W_X12_set_110 {M : Nat} {z : mG} {s : mG} (hM : sub 309485009821345068724781056 M) (h : KB M z s) : pk (F_X12_set_110 s) (fun τ => KB M z τ.2) := by
  unfold F_X12_set_110
  refine pk_b1 (W_X12_forgets (sub_tr (by decide +kernel) hM) h) (fun s_1 (h_2 : KB M z s_1) => ?_)
  exact pk_some h_2
theorem W_X12_set_92 {M : Nat} {z : mG} {s : mG} (hM : sub 0 M) (h : KB M z s) : pk (F_X12_set_92 s) (fun τ => KB M z τ.2) := by
  unfold F_X12_set_92
  exact pk_some h
theorem W_X12_set {M : Nat} {z : mG} {a1 : Int32} {a2 : Int32} {a3 : Int32} {s : mG} (hM : sub 928455029464035206174343168 M) (h : KB M z s) : pk (F_X12_set a1 a2 a3 s) (fun τ => KB M z τ.2) := by
  unfold F_X12_set
  refine pk_ite ?_ ?_
  · refine pk_b1 pk_top (fun _ _ => ?_)
    refine pk_ite ?_ ?_
    · exact pk_some h
    · extract_lets +onlyGivenNames s_1
      have h_2 : KB M z s_1 := KB_mu h (hM 89 (by decide +kernel))
      clear_value s_1
      exact (W_X12_set_110 (sub_tr (by decide +kernel) hM) h_2)
  · refine pk_ite ?_ ?_
    · refine pk_b1 pk_top (fun _ _ => ?_)
      refine pk_ite ?_ ?_
      · exact pk_some h
      · extract_lets +onlyGivenNames s_3
        have h_4 : KB M z s_3 := KB_mu h (hM 89 (by decide +kernel))
        clear_value s_3
        exact (W_X12_set_110 (sub_tr (by decide +kernel) hM) h_4)
    · refine pk_ite ?_ ?_
      · refine pk_b1 pk_top (fun _ _ => ?_)
        refine pk_ite ?_ ?_
        · exact (W_X12_set_92 (sub_tr (by decide +kernel) hM) h)
        · refine pk_b1 pk_top (fun _ _ => ?_)
          refine pk_ite ?_ ?_
          · exact (W_X12_set_92 (sub_tr (by decide +kernel) hM) h)
          · refine pk_nn ?_
            extract_lets +onlyGivenNames s_5
            have h_6 : KB M z s_5 := KB_mu h (hM 89 (by decide +kernel))
            clear_value s_5
            exact (W_X12_set_110 (sub_tr (by decide +kernel) hM) h_6)
      · exact pk_some h
theorem W_X12_feed_71 {M : Nat} {z : mG} {x1 : Int32} {x2 : Int32} {x3 : Int32} {x4 : Int32} {x5 : Int32} {x6 : Int32} {y0 : Int32} {s : mG} (hM : sub 39923566266953513865496756224 M) (h : KB M z s) : pk (F_X12_feed_71 x1 x2 x3 x4 x5 x6 y0 s) (se (fun τ => KB M z τ.2.2.2.2.2.2) (fun τ => KB M z τ.2)) := by
  unfold F_X12_feed_71
  refine pk_nn ?_
  extract_lets +onlyGivenNames s_1
  have h_2 : KB M z s_1 := KB_mu h (hM 95 (by decide +kernel))
  clear_value s_1
  extract_lets +onlyGivenNames s_3
  have h_4 : KB M z s_3 := KB_mu h_2 (hM 88 (by decide +kernel))
  clear_value s_3
  exact pk_some h_4
theorem W_X12_feed_B18 {M : Nat} {z : mG} {x1 : Int32} {x2 : Int32} {x3 : Int32} {x4 : Int32} {x5 : Int32} {x6 : Int32} {s : mG} (hM : sub 39923566266953513865496756224 M) (h : KB M z s) : pk (F_X12_feed_B18 x1 x2 x3 x4 x5 x6 s) (se (fun τ => KB M z τ.2.2.2.2.2.2) (fun τ => KB M z τ.2)) := by
  unfold F_X12_feed_B18
  refine pk_ite ?_ ?_
  · exact pk_some h
  · refine pk_ite ?_ ?_
    · refine pk_ite ?_ ?_
      · refine pk_ite ?_ ?_
        · refine pk_ite ?_ ?_
          · exact (W_X12_feed_71 (sub_tr (by decide +kernel) hM) h)
          · exact (W_X12_feed_71 (sub_tr (by decide +kernel) hM) h)
        · exact (W_X12_feed_71 (sub_tr (by decide +kernel) hM) h)
      · exact (W_X12_feed_71 (sub_tr (by decide +kernel) hM) h)
    · exact (W_X12_feed_71 (sub_tr (by decide +kernel) hM) h)
theorem W_X12_feed_L18 {M : Nat} {z : mG} {x1 : Int32} {x2 : Int32} {x3 : Int32} {x4 : Int32} {x5 : Int32} {x6 : Int32} {s : mG} (hM : sub 39923566266953513865496756224 M) (h : KB M z s) : pk (F_X12_feed_L18 x1 x2 x3 x4 x5 x6 s) (fun τ => KB M z τ.2) := by
  unfold F_X12_feed_L18
  refine pk_whl (fun v => KB M z v.2.2.2.2.2.2) h (fun v hv => ?_)
  obtain ⟨y0, y1, y2, y3, y4, y5, y6⟩ := v
  exact W_X12_feed_B18 (sub_tr (by decide +kernel) hM) hv
theorem W_X12_feed {M : Nat} {z : mG} {a1 : Int32} {a2 : Int32} {a3 : Int32} {a4 : Int32} {a5 : Int32} {s : mG} (hM : sub 39923566266953513865496756224 M) (h : KB M z s) : pk (F_X12_feed a1 a2 a3 a4 a5 s) (fun τ => KB M z τ.2) := by
  unfold F_X12_feed
  refine pk_ite ?_ ?_
  · exact (W_X12_feed_L18 (sub_tr (by decide +kernel) hM) h)
  · exact pk_some h
theorem W_X12_end {M : Nat} {z : mG} {a1 : Int32} {s : mG} (hM : sub 309485009821345068724781056 M) (h : KB M z s) : pk (F_X12_end a1 s) (fun τ => KB M z τ.2) := by
  unfold F_X12_end
  refine pk_b1 pk_top (fun _ _ => ?_)
  refine pk_ite ?_ ?_
  · exact pk_some h
  · extract_lets +onlyGivenNames s_1
    have h_2 : KB M z s_1 := KB_mu h (hM 88 (by decide +kernel))
    clear_value s_1
    exact pk_some h_2
theorem W_X12_next0_26 {M : Nat} {z : mG} {s : mG} (hM : sub 309485009821345068724781056 M) (h : KB M z s) : pk (F_X12_next0_26 s) (se (fun τ => KB M z τ) (fun τ => KB M z τ)) := by
  unfold F_X12_next0_26
  extract_lets +onlyGivenNames s_1
  have h_2 : KB M z s_1 := KB_mu h (hM 88 (by decide +kernel))
  clear_value s_1
  exact pk_some h_2
theorem W_X12_next0_303 {M : Nat} {z : mG} {y1 : Int32} {s : mG} (hM : sub 309485009821345068724781056 M) (h : KB M z s) : pk (F_X12_next0_303 y1 s) (fun τ => KB M z τ) := by
  unfold F_X12_next0_303
  extract_lets +onlyGivenNames s_1
  have h_2 : KB M z s_1 := KB_mu h (hM 88 (by decide +kernel))
  clear_value s_1
  exact pk_some h_2
theorem W_X12_next0_289 {M : Nat} {z : mG} {x1 : Int32} {y0 : Int32} {s : mG} (hM : sub 309485009821345068724781056 M) (h : KB M z s) : pk (F_X12_next0_289 x1 y0 s) (fun τ => KB M z τ) := by
  unfold F_X12_next0_289
  refine pk_ite ?_ ?_
  · exact (W_X12_next0_303 (sub_tr (by decide +kernel) hM) h)
  · exact (W_X12_next0_303 (sub_tr (by decide +kernel) hM) h)
theorem W_X12_next0_284 {M : Nat} {z : mG} {x1 : Int32} {s : mG} (hM : sub 309485009821345068724781056 M) (h : KB M z s) : pk (F_X12_next0_284 x1 s) (fun τ => KB M z τ) := by
  unfold F_X12_next0_284
  exact (W_X12_next0_289 (sub_tr (by decide +kernel) hM) h)
theorem W_X12_next0_208 {M : Nat} {z : mG} {y1 : Int32} {s : mG} (hM : sub 309485009821345068724781056 M) (h : KB M z s) : pk (F_X12_next0_208 y1 s) (fun τ => KB M z τ) := by
  unfold F_X12_next0_208
  extract_lets +onlyGivenNames s_1
  have h_2 : KB M z s_1 := KB_mu h (hM 88 (by decide +kernel))
  clear_value s_1
  exact pk_some h_2
theorem W_X12_next0_176 {M : Nat} {z : mG} {s : mG} (hM : sub 309485009821345068724781056 M) (h : KB M z s) : pk (F_X12_next0_176 s) (se (fun τ => KB M z τ) (fun τ => KB M z τ)) := by
  unfold F_X12_next0_176
  extract_lets +onlyGivenNames s_1
  have h_2 : KB M z s_1 := KB_mu h (hM 88 (by decide +kernel))
  clear_value s_1
  exact pk_some h_2
theorem W_X12_next0_B126 {M : Nat} {z : mG} {s : mG} (hM : sub 309485009821345068724781056 M) (h : KB M z s) : pk (F_X12_next0_B126 s) (se (fun τ => KB M z τ) (fun τ => KB M z τ)) := by
  unfold F_X12_next0_B126
  refine pk_b1 pk_top (fun _ _ => ?_)
  refine pk_b1 pk_top (fun _ _ => ?_)
  refine pk_ite ?_ ?_
  · refine pk_ite ?_ ?_
    · refine pk_b1r ?_
      exact (W_X12_next0_208 (sub_tr (by decide +kernel) hM) h)
    · refine pk_b1r ?_
      exact (W_X12_next0_208 (sub_tr (by decide +kernel) hM) h)
  · refine pk_ite ?_ ?_
    · exact (W_X12_next0_176 (sub_tr (by decide +kernel) hM) h)
    · refine pk_b1 pk_top (fun _ _ => ?_)
      extract_lets +onlyGivenNames s_1
      have h_2 : KB M z s_1 := KB_mu h (hM 88 (by decide +kernel))
      clear_value s_1
      exact (W_X12_next0_176 (sub_tr (by decide +kernel) hM) h_2)
theorem W_X12_next0_L126 {M : Nat} {z : mG} {s : mG} (hM : sub 309485009821345068724781056 M) (h : KB M z s) : pk (F_X12_next0_L126 s) (fun τ => KB M z τ) := by
  unfold F_X12_next0_L126
  refine pk_whl (fun v => KB M z v) h (fun v hv => ?_)
  exact W_X12_next0_B126 (sub_tr (by decide +kernel) hM) hv
theorem W_X12_next0_B76 {M : Nat} {z : mG} {s : mG} (hM : sub 309485009821345068724781056 M) (h : KB M z s) : pk (F_X12_next0_B76 s) (se (fun τ => KB M z τ) (fun τ => KB M z τ)) := by
  unfold F_X12_next0_B76
  refine pk_b1 pk_top (fun _ _ => ?_)
  refine pk_b1 pk_top (fun _ _ => ?_)
  refine pk_ite ?_ ?_
  · refine pk_b1 pk_top (fun _ _ => ?_)
    extract_lets +onlyGivenNames s_1
    have h_2 : KB M z s_1 := KB_mu h (hM 88 (by decide +kernel))
    clear_value s_1
    exact pk_some h_2
  · extract_lets +onlyGivenNames s_3
    have h_4 : KB M z s_3 := KB_mu h (hM 88 (by decide +kernel))
    clear_value s_3
    exact pk_some h_4
theorem W_X12_next0_L76 {M : Nat} {z : mG} {s : mG} (hM : sub 309485009821345068724781056 M) (h : KB M z s) : pk (F_X12_next0_L76 s) (fun τ => KB M z τ) := by
  unfold F_X12_next0_L76
  refine pk_whl (fun v => KB M z v) h (fun v hv => ?_)
  exact W_X12_next0_B76 (sub_tr (by decide +kernel) hM) hv
theorem W_X12_next0_B0 {M : Nat} {z : mG} {s : mG} (hM : sub 309485009821345068724781056 M) (h : KB M z s) : pk (F_X12_next0_B0 s) (se (fun τ => KB M z τ) (fun τ => KB M z τ)) := by
  unfold F_X12_next0_B0
  refine pk_b1 pk_top (fun _ _ => ?_)
  refine pk_ite ?_ ?_
  · exact (W_X12_next0_26 (sub_tr (by decide +kernel) hM) h)
  · refine pk_b1 pk_top (fun _ _ => ?_)
    refine pk_ite ?_ ?_
    · exact (W_X12_next0_26 (sub_tr (by decide +kernel) hM) h)
    · extract_lets +onlyGivenNames s_1
      have h_2 : KB M z s_1 := KB_mu h (hM 88 (by decide +kernel))
      clear_value s_1
      refine pk_b1 pk_top (fun _ _ => ?_)
      refine pk_ite ?_ ?_
      · extract_lets +onlyGivenNames s_3
        have h_4 : KB M z s_3 := KB_mu h_2 (hM 88 (by decide +kernel))
        clear_value s_3
        exact pk_some h_4
      · refine pk_b1 pk_top (fun _ _ => ?_)
        refine pk_ite ?_ ?_
        · refine pk_b1 pk_top (fun _ _ => ?_)
          refine pk_ite ?_ ?_
          · extract_lets +onlyGivenNames s_5
            have h_6 : KB M z s_5 := KB_mu h_2 (hM 88 (by decide +kernel))
            clear_value s_5
            refine pk_ite ?_ ?_
            · refine pk_b1r ?_
              exact (W_X12_next0_284 (sub_tr (by decide +kernel) hM) h_6)
            · refine pk_ite ?_ ?_
              · refine pk_b1r ?_
                exact (W_X12_next0_284 (sub_tr (by decide +kernel) hM) h_6)
              · refine pk_ite ?_ ?_
                · refine pk_b1r ?_
                  exact (W_X12_next0_284 (sub_tr (by decide +kernel) hM) h_6)
                · refine pk_ite ?_ ?_
                  · refine pk_b1r ?_
                    exact (W_X12_next0_284 (sub_tr (by decide +kernel) hM) h_6)
                  · refine pk_ite ?_ ?_
                    · refine pk_b1r ?_
                      exact (W_X12_next0_284 (sub_tr (by decide +kernel) hM) h_6)
                    · refine pk_ite ?_ ?_
                      · refine pk_b1r ?_
                        exact (W_X12_next0_284 (sub_tr (by decide +kernel) hM) h_6)
                      · refine pk_ite ?_ ?_
                        · refine pk_b1r ?_
                          exact (W_X12_next0_284 (sub_tr (by decide +kernel) hM) h_6)
                        · refine pk_ite ?_ ?_
                          · refine pk_b1r ?_
                            exact (W_X12_next0_284 (sub_tr (by decide +kernel) hM) h_6)
                          · refine pk_ite ?_ ?_
                            · refine pk_b1r ?_
                              exact (W_X12_next0_284 (sub_tr (by decide +kernel) hM) h_6)
                            · refine pk_ite ?_ ?_
                              · refine pk_b1r ?_
                                exact (W_X12_next0_284 (sub_tr (by decide +kernel) hM) h_6)
                              · refine pk_b1r ?_
                                exact (W_X12_next0_289 (sub_tr (by decide +kernel) hM) h_6)
          · extract_lets +onlyGivenNames s_7
            have h_8 : KB M z s_7 := KB_mu h_2 (hM 88 (by decide +kernel))
            clear_value s_7
            refine pk_b1r ?_
            exact (W_X12_next0_L126 (sub_tr (by decide +kernel) hM) h_8)
        · refine pk_b1r ?_
          exact (W_X12_next0_L76 (sub_tr (by decide +kernel) hM) h_2)
theorem W_X12_next0_L0 {M : Nat} {z : mG} {s : mG} (hM : sub 309485009821345068724781056 M) (h : KB M z s) : pk (F_X12_next0_L0 s) (fun τ => KB M z τ) := by
  unfold F_X12_next0_L0
  refine pk_whl (fun v => KB M z v) h (fun v hv => ?_)
  exact W_X12_next0_B0 (sub_tr (by decide +kernel) hM) hv
theorem W_X12_next0 {M : Nat} {z : mG} {s : mG} (hM : sub 309485009821345068724781056 M) (h : KB M z s) : pk (F_X12_next0 s) (fun τ => KB M z τ) := by
  unfold F_X12_next0
  exact (W_X12_next0_L0 (sub_tr (by decide +kernel) hM) h)
theorem W_X12_bad {M : Nat} {z : mG} {a1 : Int32} {s : mG} (hM : sub 309485009821345068724781056 M) (h : KB M z s) : pk (F_X12_bad a1 s) (fun τ => KB M z τ.2) := by
  unfold F_X12_bad
  extract_lets +onlyGivenNames s_1
  have h_2 : KB M z s_1 := KB_mu h (hM 88 (by decide +kernel))
  clear_value s_1
  extract_lets +onlyGivenNames s_3
  have h_4 : KB M z s_3 := KB_mu h_2 (hM 88 (by decide +kernel))
  clear_value s_3
  exact pk_some h_4
theorem W_X12_need {M : Nat} {z : mG} {a1 : Int32} {s : mG} (hM : sub 309485009821345068724781056 M) (h : KB M z s) : pk (F_X12_need a1 s) (fun τ => KB M z τ.2) := by
  unfold F_X12_need
  refine pk_ite ?_ ?_
  · refine pk_b1 (W_X12_next0 (sub_tr (by decide +kernel) hM) h) (fun s_1 (h_2 : KB M z s_1) => ?_)
    exact pk_some h_2
  · refine pk_b2 (W_X12_bad (sub_tr (by decide +kernel) hM) h) (fun _ s_3 (h_4 : KB M z s_3) => ?_)
    refine pk_pp ?_
    exact pk_some h_4
theorem W_X12_lay {M : Nat} {z : mG} {a1 : Int32} {a2 : Int32} {s : mG} (hM : sub 10213005324104387267917774848 M) (h : KB M z s) : pk (F_X12_lay a1 a2 s) (fun τ => KB M z τ) := by
  unfold F_X12_lay
  refine pk_nn ?_
  extract_lets +onlyGivenNames s_1
  have h_2 : KB M z s_1 := KB_mu h (hM 93 (by decide +kernel))
  clear_value s_1
  refine pk_nn ?_
  extract_lets +onlyGivenNames s_3
  have h_4 : KB M z s_3 := KB_mu h_2 (hM 93 (by decide +kernel))
  clear_value s_3
  extract_lets +onlyGivenNames s_5
  have h_6 : KB M z s_5 := KB_mu h_4 (hM 88 (by decide +kernel))
  clear_value s_5
  exact pk_some h_6
theorem W_X12_opens {M : Nat} {z : mG} {s : mG} (hM : sub 309485009821345068724781056 M) (h : KB M z s) : pk (F_X12_opens s) (fun τ => KB M z τ.2) := by
  unfold F_X12_opens
  refine pk_ite ?_ ?_
  · refine pk_b2 (W_X12_bad (sub_tr (by decide +kernel) hM) h) (fun _ s_1 (h_2 : KB M z s_1) => ?_)
    refine pk_pp ?_
    exact pk_some h_2
  · extract_lets +onlyGivenNames s_3
    have h_4 : KB M z s_3 := KB_mu h (hM 88 (by decide +kernel))
    clear_value s_3
    refine pk_b1 (W_X12_next0 (sub_tr (by decide +kernel) hM) h_4) (fun s_5 (h_6 : KB M z s_5) => ?_)
    exact pk_some h_6
theorem W_X12_unit_46 {M : Nat} {z : mG} {y1 : Int32} {s : mG} (hM : sub 10213005324104387267917774848 M) (h : KB M z s) : pk (F_X12_unit_46 y1 s) (fun τ => KB M z τ.2) := by
  unfold F_X12_unit_46
  refine pk_b1 (W_X12_lay (sub_tr (by decide +kernel) hM) h) (fun s_1 (h_2 : KB M z s_1) => ?_)
  refine pk_b1 (W_X12_next0 (sub_tr (by decide +kernel) hM) h_2) (fun s_3 (h_4 : KB M z s_3) => ?_)
  exact pk_some h_4
theorem W_X12_unit_30 {M : Nat} {z : mG} {x1 : Int32} {s : mG} (hM : sub 10213005324104387267917774848 M) (h : KB M z s) : pk (F_X12_unit_30 x1 s) (fun τ => KB M z τ.2) := by
  unfold F_X12_unit_30
  refine pk_ite ?_ ?_
  · exact (W_X12_unit_46 (sub_tr (by decide +kernel) hM) h)
  · exact (W_X12_unit_46 (sub_tr (by decide +kernel) hM) h)
theorem W_X12_unit {M : Nat} {z : mG} {s : mG} (hM : sub 10213005324104387267917774848 M) (h : KB M z s) : pk (F_X12_unit s) (fun τ => KB M z τ.2) := by
  unfold F_X12_unit
  refine pk_b1 pk_top (fun _ _ => ?_)
  refine pk_ite ?_ ?_
  · exact (W_X12_unit_30 (sub_tr (by decide +kernel) hM) h)
  · refine pk_ite ?_ ?_
    · refine pk_b2 (W_X12_bad (sub_tr (by decide +kernel) hM) h) (fun _ s_1 (h_2 : KB M z s_1) => ?_)
      refine pk_pp ?_
      exact pk_some h_2
    · exact (W_X12_unit_30 (sub_tr (by decide +kernel) hM) h)
theorem W_X12_product_112 {M : Nat} {z : mG} {s : mG} (hM : sub 0 M) (h : KB M z s) : pk (F_X12_product_112 s) (se (fun τ => KB M z τ) (fun τ => KB M z τ.2)) := by
  unfold F_X12_product_112
  exact pk_some h
theorem W_X12_product_44 {M : Nat} {z : mG} {y0 : Int32} {s : mG} (hM : sub 10213005324104387267917774848 M) (h : KB M z s) : pk (F_X12_product_44 y0 s) (se (fun τ => KB M z τ) (fun τ => KB M z τ.2)) := by
  unfold F_X12_product_44
  refine pk_b1 (W_X12_next0 (sub_tr (by decide +kernel) hM) h) (fun s_1 (h_2 : KB M z s_1) => ?_)
  refine pk_ite ?_ ?_
  · refine pk_b2 (W_X12_unit (sub_tr (by decide +kernel) hM) h_2) (fun _ s_3 (h_4 : KB M z s_3) => ?_)
    refine pk_ite ?_ ?_
    · exact pk_some h_4
    · refine pk_b1 (W_X12_lay (sub_tr (by decide +kernel) hM) h_4) (fun s_5 (h_6 : KB M z s_5) => ?_)
      exact (W_X12_product_112 (sub_tr (by decide +kernel) hM) h_6)
  · refine pk_ite ?_ ?_
    · refine pk_ite ?_ ?_
      · refine pk_b2 (W_X12_bad (sub_tr (by decide +kernel) hM) h_2) (fun _ s_7 (h_8 : KB M z s_7) => ?_)
        refine pk_pp ?_
        exact pk_some h_8
      · refine pk_b1 (W_X12_next0 (sub_tr (by decide +kernel) hM) h_2) (fun s_9 (h_10 : KB M z s_9) => ?_)
        refine pk_b1 (W_X12_lay (sub_tr (by decide +kernel) hM) h_10) (fun s_11 (h_12 : KB M z s_11) => ?_)
        exact (W_X12_product_112 (sub_tr (by decide +kernel) hM) h_12)
    · refine pk_b2 (W_X12_bad (sub_tr (by decide +kernel) hM) h_2) (fun _ s_13 (h_14 : KB M z s_13) => ?_)
      refine pk_pp ?_
      exact pk_some h_14
end
end
/-! 59.v3.foot -/
section
noncomputable section
theorem W_X12_product_29 {M : Nat} {z : mG} {s : mG} (hM : sub 10213005324104387267917774848 M) (h : KB M z s) : pk (F_X12_product_29 s) (se (fun τ => KB M z τ) (fun τ => KB M z τ.2)) := by
  unfold F_X12_product_29
  refine pk_ite ?_ ?_
  · exact (W_X12_product_44 (sub_tr (by decide +kernel) hM) h)
  · exact (W_X12_product_44 (sub_tr (by decide +kernel) hM) h)
theorem W_X12_product_B9 {M : Nat} {z : mG} {s : mG} (hM : sub 10213005324104387267917774848 M) (h : KB M z s) : pk (F_X12_product_B9 s) (se (fun τ => KB M z τ) (fun τ => KB M z τ.2)) := by
  unfold F_X12_product_B9
  refine pk_ite ?_ ?_
  · exact (W_X12_product_29 (sub_tr (by decide +kernel) hM) h)
  · refine pk_ite ?_ ?_
    · exact (W_X12_product_29 (sub_tr (by decide +kernel) hM) h)
    · exact pk_some h
theorem W_X12_product_L9 {M : Nat} {z : mG} {s : mG} (hM : sub 10213005324104387267917774848 M) (h : KB M z s) : pk (F_X12_product_L9 s) (fun τ => KB M z τ.2) := by
  unfold F_X12_product_L9
  refine pk_whl (fun v => KB M z v) h (fun v hv => ?_)
  exact W_X12_product_B9 (sub_tr (by decide +kernel) hM) hv
theorem W_X12_product {M : Nat} {z : mG} {s : mG} (hM : sub 10213005324104387267917774848 M) (h : KB M z s) : pk (F_X12_product s) (fun τ => KB M z τ.2) := by
  unfold F_X12_product
  refine pk_b2 (W_X12_unit (sub_tr (by decide +kernel) hM) h) (fun _ s_1 (h_2 : KB M z s_1) => ?_)
  refine pk_ite ?_ ?_
  · exact pk_some h_2
  · exact (W_X12_product_L9 (sub_tr (by decide +kernel) hM) h_2)
theorem W_X12_sumUp_46 {M : Nat} {z : mG} {y0 : Int32} {s : mG} (hM : sub 10213005324104387267917774848 M) (h : KB M z s) : pk (F_X12_sumUp_46 y0 s) (se (fun τ => KB M z τ) (fun τ => KB M z τ.2)) := by
  unfold F_X12_sumUp_46
  refine pk_b1 (W_X12_next0 (sub_tr (by decide +kernel) hM) h) (fun s_1 (h_2 : KB M z s_1) => ?_)
  refine pk_b2 (W_X12_product (sub_tr (by decide +kernel) hM) h_2) (fun _ s_3 (h_4 : KB M z s_3) => ?_)
  refine pk_ite ?_ ?_
  · exact pk_some h_4
  · refine pk_b1 (W_X12_lay (sub_tr (by decide +kernel) hM) h_4) (fun s_5 (h_6 : KB M z s_5) => ?_)
    exact pk_some h_6
theorem W_X12_sumUp_29 {M : Nat} {z : mG} {s : mG} (hM : sub 10213005324104387267917774848 M) (h : KB M z s) : pk (F_X12_sumUp_29 s) (se (fun τ => KB M z τ) (fun τ => KB M z τ.2)) := by
  unfold F_X12_sumUp_29
  refine pk_ite ?_ ?_
  · exact (W_X12_sumUp_46 (sub_tr (by decide +kernel) hM) h)
  · exact (W_X12_sumUp_46 (sub_tr (by decide +kernel) hM) h)
theorem W_X12_sumUp_B9 {M : Nat} {z : mG} {s : mG} (hM : sub 10213005324104387267917774848 M) (h : KB M z s) : pk (F_X12_sumUp_B9 s) (se (fun τ => KB M z τ) (fun τ => KB M z τ.2)) := by
  unfold F_X12_sumUp_B9
  refine pk_ite ?_ ?_
  · exact (W_X12_sumUp_29 (sub_tr (by decide +kernel) hM) h)
  · refine pk_ite ?_ ?_
    · exact (W_X12_sumUp_29 (sub_tr (by decide +kernel) hM) h)
    · exact pk_some h
theorem W_X12_sumUp_L9 {M : Nat} {z : mG} {s : mG} (hM : sub 10213005324104387267917774848 M) (h : KB M z s) : pk (F_X12_sumUp_L9 s) (fun τ => KB M z τ.2) := by
  unfold F_X12_sumUp_L9
  refine pk_whl (fun v => KB M z v) h (fun v hv => ?_)
  exact W_X12_sumUp_B9 (sub_tr (by decide +kernel) hM) hv
theorem W_X12_sumUp {M : Nat} {z : mG} {s : mG} (hM : sub 10213005324104387267917774848 M) (h : KB M z s) : pk (F_X12_sumUp s) (fun τ => KB M z τ.2) := by
  unfold F_X12_sumUp
  refine pk_b2 (W_X12_product (sub_tr (by decide +kernel) hM) h) (fun _ s_1 (h_2 : KB M z s_1) => ?_)
  refine pk_ite ?_ ?_
  · exact pk_some h_2
  · exact (W_X12_sumUp_L9 (sub_tr (by decide +kernel) hM) h_2)
theorem W_X12_every_B9 {M : Nat} {z : mG} {rec : mG → Option (Int32 × mG)} {s : mG} (hM : sub 10213005324104387267917774848 M) (hrec : ∀ (r : mG), KB M z r → pk (rec r) (fun τ => KB M z τ.2)) (h : KB M z s) : pk (F_X12_every_B9 rec s) (se (fun τ => KB M z τ) (fun τ => KB M z τ.2)) := by
  unfold F_X12_every_B9
  refine pk_ite ?_ ?_
  · refine pk_b1 (W_X12_next0 (sub_tr (by decide +kernel) hM) h) (fun s_1 (h_2 : KB M z s_1) => ?_)
    refine pk_b2 (hrec _ h_2) (fun _ s_3 (h_4 : KB M z s_3) => ?_)
    refine pk_ite ?_ ?_
    · exact pk_some h_4
    · refine pk_b1 (W_X12_lay (sub_tr (by decide +kernel) hM) h_4) (fun s_5 (h_6 : KB M z s_5) => ?_)
      exact pk_some h_6
  · exact pk_some h
theorem W_X12_every_L9 {M : Nat} {z : mG} {rec : mG → Option (Int32 × mG)} {s : mG} (hM : sub 10213005324104387267917774848 M) (hrec : ∀ (r : mG), KB M z r → pk (rec r) (fun τ => KB M z τ.2)) (h : KB M z s) : pk (F_X12_every_L9 rec s) (fun τ => KB M z τ.2) := by
  unfold F_X12_every_L9
  refine pk_whl (fun v => KB M z v) h (fun v hv => ?_)
  exact W_X12_every_B9 (sub_tr (by decide +kernel) hM) hrec hv
theorem W_X12_every {M : Nat} {z : mG} {rec : mG → Option (Int32 × mG)} {s : mG} (hM : sub 10213005324104387267917774848 M) (hrec : ∀ (r : mG), KB M z r → pk (rec r) (fun τ => KB M z τ.2)) (h : KB M z s) : pk (F_X12_every rec s) (fun τ => KB M z τ.2) := by
  unfold F_X12_every
  refine pk_b2 (hrec _ h) (fun _ s_1 (h_2 : KB M z s_1) => ?_)
  refine pk_ite ?_ ?_
  · exact pk_some h_2
  · exact (W_X12_every_L9 (sub_tr (by decide +kernel) hM) hrec h_2)
theorem W_X12_any_B9 {M : Nat} {z : mG} {rec : mG → Option (Int32 × mG)} {s : mG} (hM : sub 10213005324104387267917774848 M) (hrec : ∀ (r : mG), KB M z r → pk (rec r) (fun τ => KB M z τ.2)) (h : KB M z s) : pk (F_X12_any_B9 rec s) (se (fun τ => KB M z τ) (fun τ => KB M z τ.2)) := by
  unfold F_X12_any_B9
  refine pk_ite ?_ ?_
  · refine pk_b1 (W_X12_next0 (sub_tr (by decide +kernel) hM) h) (fun s_1 (h_2 : KB M z s_1) => ?_)
    refine pk_b2 (W_X12_every (sub_tr (by decide +kernel) hM) hrec h_2) (fun _ s_3 (h_4 : KB M z s_3) => ?_)
    refine pk_ite ?_ ?_
    · exact pk_some h_4
    · refine pk_b1 (W_X12_lay (sub_tr (by decide +kernel) hM) h_4) (fun s_5 (h_6 : KB M z s_5) => ?_)
      exact pk_some h_6
  · exact pk_some h
theorem W_X12_any_L9 {M : Nat} {z : mG} {rec : mG → Option (Int32 × mG)} {s : mG} (hM : sub 10213005324104387267917774848 M) (hrec : ∀ (r : mG), KB M z r → pk (rec r) (fun τ => KB M z τ.2)) (h : KB M z s) : pk (F_X12_any_L9 rec s) (fun τ => KB M z τ.2) := by
  unfold F_X12_any_L9
  refine pk_whl (fun v => KB M z v) h (fun v hv => ?_)
  exact W_X12_any_B9 (sub_tr (by decide +kernel) hM) hrec hv
theorem W_X12_any {M : Nat} {z : mG} {rec : mG → Option (Int32 × mG)} {s : mG} (hM : sub 10213005324104387267917774848 M) (hrec : ∀ (r : mG), KB M z r → pk (rec r) (fun τ => KB M z τ.2)) (h : KB M z s) : pk (F_X12_any rec s) (fun τ => KB M z τ.2) := by
  unfold F_X12_any
  refine pk_b2 (W_X12_every (sub_tr (by decide +kernel) hM) hrec h) (fun _ s_1 (h_2 : KB M z s_1) => ?_)
  refine pk_ite ?_ ?_
  · exact pk_some h_2
  · exact (W_X12_any_L9 (sub_tr (by decide +kernel) hM) hrec h_2)
theorem W_X12_oneTest_23 {M : Nat} {z : mG} {rec : mG → Option (Int32 × mG)} {s : mG} (hM : sub 0 M) (hrec : ∀ (r : mG), KB M z r → pk (rec r) (fun τ => KB M z τ.2)) (h : KB M z s) : pk (F_X12_oneTest_23 rec s) (fun τ => KB M z τ.2) := by
  unfold F_X12_oneTest_23
  exact pk_some h
theorem W_X12_oneTest_78 {M : Nat} {z : mG} {rec : mG → Option (Int32 × mG)} {s : mG} (hM : sub 0 M) (hrec : ∀ (r : mG), KB M z r → pk (rec r) (fun τ => KB M z τ.2)) (h : KB M z s) : pk (F_X12_oneTest_78 rec s) (fun τ => KB M z τ.2) := by
  unfold F_X12_oneTest_78
  exact pk_some h
theorem W_X12_oneTest_147 {M : Nat} {z : mG} {rec : mG → Option (Int32 × mG)} {y0 : Int32} {s : mG} (hM : sub 10213005324104387267917774848 M) (hrec : ∀ (r : mG), KB M z r → pk (rec r) (fun τ => KB M z τ.2)) (h : KB M z s) : pk (F_X12_oneTest_147 rec y0 s) (fun τ => KB M z τ.2) := by
  unfold F_X12_oneTest_147
  refine pk_ite ?_ ?_
  · refine pk_b2 (W_X12_bad (sub_tr (by decide +kernel) hM) h) (fun _ s_1 (h_2 : KB M z s_1) => ?_)
    refine pk_pp ?_
    exact pk_some h_2
  · refine pk_b1 (W_X12_next0 (sub_tr (by decide +kernel) hM) h) (fun s_3 (h_4 : KB M z s_3) => ?_)
    refine pk_b2 (W_X12_sumUp (sub_tr (by decide +kernel) hM) h_4) (fun _ s_5 (h_6 : KB M z s_5) => ?_)
    refine pk_ite ?_ ?_
    · exact pk_some h_6
    · refine pk_b1 (W_X12_lay (sub_tr (by decide +kernel) hM) h_6) (fun s_7 (h_8 : KB M z s_7) => ?_)
      exact pk_some h_8
theorem W_X12_oneTest {M : Nat} {z : mG} {rec : mG → Option (Int32 × mG)} {s : mG} (hM : sub 10213005324104387267917774848 M) (hrec : ∀ (r : mG), KB M z r → pk (rec r) (fun τ => KB M z τ.2)) (h : KB M z s) : pk (F_X12_oneTest rec s) (fun τ => KB M z τ.2) := by
  unfold F_X12_oneTest
  refine pk_ite ?_ ?_
  · refine pk_b2 (W_X12_opens (sub_tr (by decide +kernel) hM) h) (fun _ s_1 (h_2 : KB M z s_1) => ?_)
    refine pk_ite ?_ ?_
    · exact (W_X12_oneTest_23 (sub_tr (by decide +kernel) hM) hrec h_2)
    · refine pk_b2 (hrec _ h_2) (fun _ s_3 (h_4 : KB M z s_3) => ?_)
      refine pk_ite ?_ ?_
      · exact (W_X12_oneTest_23 (sub_tr (by decide +kernel) hM) hrec h_4)
      · extract_lets +onlyGivenNames s_5
        have h_6 : KB M z s_5 := KB_mu h_4 (hM 88 (by decide +kernel))
        clear_value s_5
        refine pk_b1 (W_X12_lay (sub_tr (by decide +kernel) hM) h_6) (fun s_7 (h_8 : KB M z s_7) => ?_)
        exact pk_some h_8
  · refine pk_ite ?_ ?_
    · refine pk_b2 (W_X12_opens (sub_tr (by decide +kernel) hM) h) (fun _ s_9 (h_10 : KB M z s_9) => ?_)
      refine pk_ite ?_ ?_
      · exact (W_X12_oneTest_78 (sub_tr (by decide +kernel) hM) hrec h_10)
      · refine pk_b2 (W_X12_any (sub_tr (by decide +kernel) hM) hrec h_10) (fun _ s_11 (h_12 : KB M z s_11) => ?_)
        refine pk_ite ?_ ?_
        · exact (W_X12_oneTest_78 (sub_tr (by decide +kernel) hM) hrec h_12)
        · refine pk_b2 (W_X12_need (sub_tr (by decide +kernel) hM) h_12) (fun _ s_13 (h_14 : KB M z s_13) => ?_)
          refine pk_ite ?_ ?_
          · exact (W_X12_oneTest_78 (sub_tr (by decide +kernel) hM) hrec h_14)
          · extract_lets +onlyGivenNames s_15
            have h_16 : KB M z s_15 := KB_mu h_14 (hM 88 (by decide +kernel))
            clear_value s_15
            exact pk_some h_16
    · refine pk_b2 (W_X12_sumUp (sub_tr (by decide +kernel) hM) h) (fun _ s_17 (h_18 : KB M z s_17) => ?_)
      refine pk_ite ?_ ?_
      · exact pk_some h_18
      · refine pk_ite ?_ ?_
        · exact (W_X12_oneTest_147 (sub_tr (by decide +kernel) hM) hrec h_18)
        · refine pk_ite ?_ ?_
          · exact (W_X12_oneTest_147 (sub_tr (by decide +kernel) hM) hrec h_18)
          · refine pk_ite ?_ ?_
            · exact (W_X12_oneTest_147 (sub_tr (by decide +kernel) hM) hrec h_18)
            · exact (W_X12_oneTest_147 (sub_tr (by decide +kernel) hM) hrec h_18)
theorem W_Q_X12_oneTest {M : Nat} {z : mG} (hM : sub 10213005324104387267917774848 M) : ∀ (n : Nat) (s : mG), KB M z s → pk (Q_X12_oneTest n s) (fun τ => KB M z τ.2)
  | 0, _, _ => pk_none
  | n + 1, _, h => W_X12_oneTest (sub_tr (by decide +kernel) hM) (fun s h => W_Q_X12_oneTest hM n s h) h
theorem W_R_X12_oneTest {M : Nat} {z : mG} {s : mG} (hM : sub 10213005324104387267917774848 M) (h : KB M z s) : pk (R_X12_oneTest s) (fun τ => KB M z τ.2) := W_Q_X12_oneTest hM 9 s h
theorem W_X12_aLine_123 {M : Nat} {z : mG} {s : mG} (hM : sub 5261245166962866168321277952 M) (h : KB M z s) : pk (F_X12_aLine_123 s) (fun τ => KB M z τ.2) := by
  unfold F_X12_aLine_123
  refine pk_nn ?_
  extract_lets +onlyGivenNames s_1
  have h_2 : KB M z s_1 := KB_mu h (hM 92 (by decide +kernel))
  clear_value s_1
  refine pk_b2 (W_X12_need (sub_tr (by decide +kernel) hM) h_2) (fun _ s_3 (h_4 : KB M z s_3) => ?_)
  refine pk_pp ?_
  exact pk_some h_4
theorem W_X12_aLine {M : Nat} {z : mG} {s : mG} (hM : sub 15164765481245908367514271744 M) (h : KB M z s) : pk (F_X12_aLine s) (fun τ => KB M z τ.2) := by
  unfold F_X12_aLine
  refine pk_b1 pk_top (fun _ _ => ?_)
  refine pk_ite ?_ ?_
  · refine pk_b2 (W_X12_bad (sub_tr (by decide +kernel) hM) h) (fun _ s_1 (h_2 : KB M z s_1) => ?_)
    refine pk_pp ?_
    exact pk_some h_2
  · refine pk_ite ?_ ?_
    · refine pk_b2 (W_X12_bad (sub_tr (by decide +kernel) hM) h) (fun _ s_3 (h_4 : KB M z s_3) => ?_)
      refine pk_pp ?_
      exact pk_some h_4
    · extract_lets +onlyGivenNames s_5
      have h_6 : KB M z s_5 := KB_mu h (hM 88 (by decide +kernel))
      clear_value s_5
      refine pk_nn ?_
      extract_lets +onlyGivenNames s_7
      have h_8 : KB M z s_7 := KB_mu h_6 (hM 92 (by decide +kernel))
      clear_value s_7
      refine pk_b1 (W_X12_next0 (sub_tr (by decide +kernel) hM) h_8) (fun s_9 (h_10 : KB M z s_9) => ?_)
      refine pk_nn ?_
      extract_lets +onlyGivenNames s_11
      have h_12 : KB M z s_11 := KB_mu h_10 (hM 92 (by decide +kernel))
      clear_value s_11
      refine pk_b2 (W_X12_sumUp (sub_tr (by decide +kernel) hM) h_12) (fun _ s_13 (h_14 : KB M z s_13) => ?_)
      refine pk_ite ?_ ?_
      · exact pk_some h_14
      · refine pk_nn ?_
        extract_lets +onlyGivenNames s_15
        have h_16 : KB M z s_15 := KB_mu h_14 (hM 92 (by decide +kernel))
        clear_value s_15
        refine pk_ite ?_ ?_
        · refine pk_b1 (W_X12_next0 (sub_tr (by decide +kernel) hM) h_16) (fun s_17 (h_18 : KB M z s_17) => ?_)
          refine pk_b2 (W_X12_any (sub_tr (by decide +kernel) hM) (fun _ h => W_R_X12_oneTest (sub_tr (by decide +kernel) hM) h) h_18) (fun _ s_19 (h_20 : KB M z s_19) => ?_)
          refine pk_ite ?_ ?_
          · exact pk_some h_20
          · exact (W_X12_aLine_123 (sub_tr (by decide +kernel) hM) h_20)
        · exact (W_X12_aLine_123 (sub_tr (by decide +kernel) hM) h_16)
theorem W_X12_readsLaw_49 {M : Nat} {z : mG} {x1 : Int32} {s : mG} (hM : sub 0 M) (h : KB M z s) : pk (F_X12_readsLaw_49 x1 s) (fun τ => KB M z τ.2) := by
  unfold F_X12_readsLaw_49
  refine pk_pp ?_
  exact pk_some h
theorem W_X12_readsLaw_42 {M : Nat} {z : mG} {x1 : Int32} {y1 : Int32} {y2 : Int32} {s : mG} (hM : sub 309485009821345068724781056 M) (h : KB M z s) : pk (F_X12_readsLaw_42 x1 y1 y2 s) (se (fun τ => KB M z τ.2) (fun τ => KB M z τ.2)) := by
  unfold F_X12_readsLaw_42
  extract_lets +onlyGivenNames s_1
  have h_2 : KB M z s_1 := KB_mu h (hM 88 (by decide +kernel))
  clear_value s_1
  exact pk_some h_2
theorem W_X12_readsLaw_B12 {M : Nat} {z : mG} {x1 : Int32} {s : mG} (hM : sub 15164765481245908367514271744 M) (h : KB M z s) : pk (F_X12_readsLaw_B12 x1 s) (se (fun τ => KB M z τ.2) (fun τ => KB M z τ.2)) := by
  unfold F_X12_readsLaw_B12
  refine pk_ite ?_ ?_
  · refine pk_b1r ?_
    exact (W_X12_readsLaw_49 (sub_tr (by decide +kernel) hM) h)
  · refine pk_ite ?_ ?_
    · refine pk_b1r ?_
      exact (W_X12_readsLaw_49 (sub_tr (by decide +kernel) hM) h)
    · refine pk_b2 (W_X12_aLine (sub_tr (by decide +kernel) hM) h) (fun _ s_1 (h_2 : KB M z s_1) => ?_)
      refine pk_ite ?_ ?_
      · exact (W_X12_readsLaw_42 (sub_tr (by decide +kernel) hM) h_2)
      · exact (W_X12_readsLaw_42 (sub_tr (by decide +kernel) hM) h_2)
theorem W_X12_readsLaw_L12 {M : Nat} {z : mG} {x1 : Int32} {s : mG} (hM : sub 15164765481245908367514271744 M) (h : KB M z s) : pk (F_X12_readsLaw_L12 x1 s) (fun τ => KB M z τ.2) := by
  unfold F_X12_readsLaw_L12
  refine pk_whl (fun v => KB M z v.2) h (fun v hv => ?_)
  obtain ⟨y0, y1⟩ := v
  exact W_X12_readsLaw_B12 (sub_tr (by decide +kernel) hM) hv
theorem W_X12_readsLaw {M : Nat} {z : mG} {s : mG} (hM : sub 15164765481245908367514271744 M) (h : KB M z s) : pk (F_X12_readsLaw s) (fun τ => KB M z τ.2) := by
  unfold F_X12_readsLaw
  extract_lets +onlyGivenNames s_1
  have h_2 : KB M z s_1 := KB_mu h (hM 88 (by decide +kernel))
  clear_value s_1
  extract_lets +onlyGivenNames s_3
  have h_4 : KB M z s_3 := KB_mu h_2 (hM 88 (by decide +kernel))
  clear_value s_3
  exact (W_X12_readsLaw_L12 (sub_tr (by decide +kernel) hM) h_4)
theorem W_X12_number {M : Nat} {z : mG} {a1 : Int32} {a2 : Int32} {s : mG} (hM : sub 309485009821345068724781056 M) (h : KB M z s) : pk (F_X12_number a1 a2 s) (fun τ => KB M z τ.2) := by
  unfold F_X12_number
  refine pk_ite ?_ ?_
  · refine pk_b1 pk_top (fun _ _ => ?_)
    refine pk_ite ?_ ?_
    · refine pk_b2 (W_X12_bad (sub_tr (by decide +kernel) hM) h) (fun _ s_1 (h_2 : KB M z s_1) => ?_)
      refine pk_pp ?_
      exact pk_some h_2
    · extract_lets +onlyGivenNames s_3
      have h_4 : KB M z s_3 := KB_mu h (hM 88 (by decide +kernel))
      clear_value s_3
      refine pk_b1 (W_X12_next0 (sub_tr (by decide +kernel) hM) h_4) (fun s_5 (h_6 : KB M z s_5) => ?_)
      exact pk_some h_6
  · refine pk_b2 (W_X12_bad (sub_tr (by decide +kernel) hM) h) (fun _ s_7 (h_8 : KB M z s_7) => ?_)
    refine pk_pp ?_
    exact pk_some h_8
theorem W_X12_told_18 {M : Nat} {z : mG} {s : mG} (hM : sub 0 M) (h : KB M z s) : pk (F_X12_told_18 s) (fun τ => KB M z τ.2) := by
  unfold F_X12_told_18
  exact pk_some h
theorem W_X12_told {M : Nat} {z : mG} {a1 : Int32} {a2 : Int32} {a3 : Int32} {a4 : Int32} {s : mG} (hM : sub 20116525638387429467110768640 M) (h : KB M z s) : pk (F_X12_told a1 a2 a3 a4 s) (fun τ => KB M z τ.2) := by
  unfold F_X12_told
  refine pk_b2 (W_X12_need (sub_tr (by decide +kernel) hM) h) (fun _ s_1 (h_2 : KB M z s_1) => ?_)
  refine pk_ite ?_ ?_
  · exact (W_X12_told_18 (sub_tr (by decide +kernel) hM) h_2)
  · refine pk_b2 (W_X12_number (sub_tr (by decide +kernel) hM) h_2) (fun _ s_3 (h_4 : KB M z s_3) => ?_)
    refine pk_ite ?_ ?_
    · exact (W_X12_told_18 (sub_tr (by decide +kernel) hM) h_4)
    · refine pk_nn ?_
      extract_lets +onlyGivenNames s_5
      have h_6 : KB M z s_5 := KB_mu h_4 (hM 94 (by decide +kernel))
      clear_value s_5
      exact pk_some h_6
theorem W_X12_aSign_63 {M : Nat} {z : mG} {s : mG} (hM : sub 0 M) (h : KB M z s) : pk (F_X12_aSign_63 s) (fun τ => KB M z τ.2) := by
  unfold F_X12_aSign_63
  exact pk_some h
theorem W_X12_aSign {M : Nat} {z : mG} {s : mG} (hM : sub 20116525638387429467110768640 M) (h : KB M z s) : pk (F_X12_aSign s) (fun τ => KB M z τ.2) := by
  unfold F_X12_aSign
  refine pk_b2 (W_X12_need (sub_tr (by decide +kernel) hM) h) (fun _ s_1 (h_2 : KB M z s_1) => ?_)
  refine pk_ite ?_ ?_
  · exact (W_X12_aSign_63 (sub_tr (by decide +kernel) hM) h_2)
  · refine pk_b2 (W_X12_told (sub_tr (by decide +kernel) hM) h_2) (fun _ s_3 (h_4 : KB M z s_3) => ?_)
    refine pk_ite ?_ ?_
    · exact (W_X12_aSign_63 (sub_tr (by decide +kernel) hM) h_4)
    · refine pk_b2 (W_X12_told (sub_tr (by decide +kernel) hM) h_4) (fun _ s_5 (h_6 : KB M z s_5) => ?_)
      refine pk_ite ?_ ?_
      · exact (W_X12_aSign_63 (sub_tr (by decide +kernel) hM) h_6)
      · refine pk_b2 (W_X12_need (sub_tr (by decide +kernel) hM) h_6) (fun _ s_7 (h_8 : KB M z s_7) => ?_)
        refine pk_ite ?_ ?_
        · exact (W_X12_aSign_63 (sub_tr (by decide +kernel) hM) h_8)
        · exact pk_some h_8
theorem W_X12_aShift_90 {M : Nat} {z : mG} {s : mG} (hM : sub 0 M) (h : KB M z s) : pk (F_X12_aShift_90 s) (fun τ => KB M z τ.2) := by
  unfold F_X12_aShift_90
  exact pk_some h
theorem W_X12_aShift {M : Nat} {z : mG} {s : mG} (hM : sub 20116525638387429467110768640 M) (h : KB M z s) : pk (F_X12_aShift s) (fun τ => KB M z τ.2) := by
  unfold F_X12_aShift
  refine pk_b2 (W_X12_told (sub_tr (by decide +kernel) hM) h) (fun _ s_1 (h_2 : KB M z s_1) => ?_)
  refine pk_ite ?_ ?_
  · exact (W_X12_aShift_90 (sub_tr (by decide +kernel) hM) h_2)
  · refine pk_b2 (W_X12_told (sub_tr (by decide +kernel) hM) h_2) (fun _ s_3 (h_4 : KB M z s_3) => ?_)
    refine pk_ite ?_ ?_
    · exact (W_X12_aShift_90 (sub_tr (by decide +kernel) hM) h_4)
    · refine pk_b2 (W_X12_told (sub_tr (by decide +kernel) hM) h_4) (fun _ s_5 (h_6 : KB M z s_5) => ?_)
      refine pk_ite ?_ ?_
      · exact (W_X12_aShift_90 (sub_tr (by decide +kernel) hM) h_6)
      · refine pk_b2 (W_X12_told (sub_tr (by decide +kernel) hM) h_6) (fun _ s_7 (h_8 : KB M z s_7) => ?_)
        refine pk_ite ?_ ?_
        · exact (W_X12_aShift_90 (sub_tr (by decide +kernel) hM) h_8)
        · refine pk_b2 (W_X12_need (sub_tr (by decide +kernel) hM) h_8) (fun _ s_9 (h_10 : KB M z s_9) => ?_)
          refine pk_ite ?_ ?_
          · exact (W_X12_aShift_90 (sub_tr (by decide +kernel) hM) h_10)
          · exact pk_some h_10
theorem W_X12_readsRows_115 {M : Nat} {z : mG} {x1 : Int32} {s : mG} (hM : sub 0 M) (h : KB M z s) : pk (F_X12_readsRows_115 x1 s) (fun τ => KB M z τ.2) := by
  unfold F_X12_readsRows_115
  refine pk_pp ?_
  exact pk_some h
theorem W_X12_readsRows_108 {M : Nat} {z : mG} {x1 : Int32} {y1 : Int32} {y2 : Int32} {s : mG} (hM : sub 309485009821345068724781056 M) (h : KB M z s) : pk (F_X12_readsRows_108 x1 y1 y2 s) (se (fun τ => KB M z τ.2) (fun τ => KB M z τ.2)) := by
  unfold F_X12_readsRows_108
  extract_lets +onlyGivenNames s_1
  have h_2 : KB M z s_1 := KB_mu h (hM 88 (by decide +kernel))
  clear_value s_1
  exact pk_some h_2
theorem W_X12_readsRows_93 {M : Nat} {z : mG} {y0 : Int32} {s : mG} (hM : sub 309485009821345068724781056 M) (h : KB M z s) : pk (F_X12_readsRows_93 y0 s) (se (fun τ => KB M z τ.2) (fun τ => KB M z τ.2)) := by
  unfold F_X12_readsRows_93
  refine pk_ite ?_ ?_
  · exact (W_X12_readsRows_108 (sub_tr (by decide +kernel) hM) h)
  · exact (W_X12_readsRows_108 (sub_tr (by decide +kernel) hM) h)
theorem W_X12_readsRows_65 {M : Nat} {z : mG} {y0 : Int32} {y1 : Int32} {s : mG} (hM : sub 20116525638387429467110768640 M) (h : KB M z s) : pk (F_X12_readsRows_65 y0 y1 s) (se (fun τ => KB M z τ.2) (fun τ => KB M z τ.2)) := by
  unfold F_X12_readsRows_65
  refine pk_ite ?_ ?_
  · refine pk_b2 (W_X12_bad (sub_tr (by decide +kernel) hM) h) (fun _ s_1 (h_2 : KB M z s_1) => ?_)
    refine pk_pp ?_
    exact pk_some h_2
  · refine pk_ite ?_ ?_
    · refine pk_b2 (W_X12_aSign (sub_tr (by decide +kernel) hM) h) (fun _ s_3 (h_4 : KB M z s_3) => ?_)
      exact (W_X12_readsRows_93 (sub_tr (by decide +kernel) hM) h_4)
    · refine pk_b2 (W_X12_aShift (sub_tr (by decide +kernel) hM) h) (fun _ s_5 (h_6 : KB M z s_5) => ?_)
      exact (W_X12_readsRows_93 (sub_tr (by decide +kernel) hM) h_6)
theorem W_X12_readsRows_37 {M : Nat} {z : mG} {y0 : Int32} {y1 : Int32} {s : mG} (hM : sub 20116525638387429467110768640 M) (h : KB M z s) : pk (F_X12_readsRows_37 y0 y1 s) (se (fun τ => KB M z τ.2) (fun τ => KB M z τ.2)) := by
  unfold F_X12_readsRows_37
  refine pk_ite ?_ ?_
  · refine pk_ite ?_ ?_
    · exact (W_X12_readsRows_65 (sub_tr (by decide +kernel) hM) h)
    · exact (W_X12_readsRows_65 (sub_tr (by decide +kernel) hM) h)
  · refine pk_b2 (W_X12_bad (sub_tr (by decide +kernel) hM) h) (fun _ s_1 (h_2 : KB M z s_1) => ?_)
    refine pk_pp ?_
    exact pk_some h_2
theorem W_X12_readsRows_B7 {M : Nat} {z : mG} {x1 : Int32} {s : mG} (hM : sub 20116525638387429467110768640 M) (h : KB M z s) : pk (F_X12_readsRows_B7 x1 s) (se (fun τ => KB M z τ.2) (fun τ => KB M z τ.2)) := by
  unfold F_X12_readsRows_B7
  refine pk_ite ?_ ?_
  · refine pk_b1r ?_
    exact (W_X12_readsRows_115 (sub_tr (by decide +kernel) hM) h)
  · refine pk_ite ?_ ?_
    · refine pk_b1r ?_
      exact (W_X12_readsRows_115 (sub_tr (by decide +kernel) hM) h)
    · refine pk_ite ?_ ?_
      · exact (W_X12_readsRows_37 (sub_tr (by decide +kernel) hM) h)
      · exact (W_X12_readsRows_37 (sub_tr (by decide +kernel) hM) h)
theorem W_X12_readsRows_L7 {M : Nat} {z : mG} {x1 : Int32} {s : mG} (hM : sub 20116525638387429467110768640 M) (h : KB M z s) : pk (F_X12_readsRows_L7 x1 s) (fun τ => KB M z τ.2) := by
  unfold F_X12_readsRows_L7
  refine pk_whl (fun v => KB M z v.2) h (fun v hv => ?_)
  obtain ⟨y0, y1⟩ := v
  exact W_X12_readsRows_B7 (sub_tr (by decide +kernel) hM) hv
theorem W_X12_readsRows {M : Nat} {z : mG} {s : mG} (hM : sub 20116525638387429467110768640 M) (h : KB M z s) : pk (F_X12_readsRows s) (fun τ => KB M z τ.2) := by
  unfold F_X12_readsRows
  extract_lets +onlyGivenNames s_1
  have h_2 : KB M z s_1 := KB_mu h (hM 88 (by decide +kernel))
  clear_value s_1
  exact (W_X12_readsRows_L7 (sub_tr (by decide +kernel) hM) h_2)
theorem W_X12_putsLaw_B107 {M : Nat} {z : mG} {x1 : Int32} {s : mG} (hM : sub 618970019642690137449562112 M) (h : KB M z s) : pk (F_X12_putsLaw_B107 x1 s) (se (fun τ => KB M z τ.2) (fun τ => KB M z τ.2)) := by
  unfold F_X12_putsLaw_B107
  refine pk_ite ?_ ?_
  · exact pk_some h
  · refine pk_nn ?_
    refine pk_nn ?_
    extract_lets +onlyGivenNames s_1
    have h_2 : KB M z s_1 := KB_mu h (hM 89 (by decide +kernel))
    clear_value s_1
    exact pk_some h_2
theorem W_X12_putsLaw_L107 {M : Nat} {z : mG} {x1 : Int32} {s : mG} (hM : sub 618970019642690137449562112 M) (h : KB M z s) : pk (F_X12_putsLaw_L107 x1 s) (fun τ => KB M z τ.2) := by
  unfold F_X12_putsLaw_L107
  refine pk_whl (fun v => KB M z v.2) h (fun v hv => ?_)
  obtain ⟨y0, y1⟩ := v
  exact W_X12_putsLaw_B107 (sub_tr (by decide +kernel) hM) hv
theorem W_X12_putsLaw_B13 {M : Nat} {z : mG} {x1 : Int32} {s : mG} (hM : sub 618970019642690137449562112 M) (h : KB M z s) : pk (F_X12_putsLaw_B13 x1 s) (se (fun τ => KB M z τ.2) (fun τ => KB M z τ.2)) := by
  unfold F_X12_putsLaw_B13
  refine pk_ite ?_ ?_
  · refine pk_b1r ?_
    exact (W_X12_putsLaw_L107 (sub_tr (by decide +kernel) hM) h)
  · refine pk_nn ?_
    refine pk_nn ?_
    extract_lets +onlyGivenNames s_1
    have h_2 : KB M z s_1 := KB_mu h (hM 89 (by decide +kernel))
    clear_value s_1
    refine pk_nn ?_
    refine pk_nn ?_
    extract_lets +onlyGivenNames s_3
    have h_4 : KB M z s_3 := KB_mu h_2 (hM 89 (by decide +kernel))
    clear_value s_3
    refine pk_nn ?_
    refine pk_nn ?_
    extract_lets +onlyGivenNames s_5
    have h_6 : KB M z s_5 := KB_mu h_4 (hM 89 (by decide +kernel))
    clear_value s_5
    refine pk_nn ?_
    refine pk_nn ?_
    extract_lets +onlyGivenNames s_7
    have h_8 : KB M z s_7 := KB_mu h_6 (hM 89 (by decide +kernel))
    clear_value s_7
    exact pk_some h_8
theorem W_X12_putsLaw_L13 {M : Nat} {z : mG} {x1 : Int32} {s : mG} (hM : sub 618970019642690137449562112 M) (h : KB M z s) : pk (F_X12_putsLaw_L13 x1 s) (fun τ => KB M z τ.2) := by
  unfold F_X12_putsLaw_L13
  refine pk_whl (fun v => KB M z v.2) h (fun v hv => ?_)
  obtain ⟨y0, y1⟩ := v
  exact W_X12_putsLaw_B13 (sub_tr (by decide +kernel) hM) hv
theorem W_X12_putsLaw {M : Nat} {z : mG} {s : mG} (hM : sub 618970019642690137449562112 M) (h : KB M z s) : pk (F_X12_putsLaw s) (fun τ => KB M z τ.2) := by
  unfold F_X12_putsLaw
  extract_lets +onlyGivenNames s_1
  have h_2 : KB M z s_1 := KB_mu h (hM 89 (by decide +kernel))
  clear_value s_1
  exact (W_X12_putsLaw_L13 (sub_tr (by decide +kernel) hM) h_2)
theorem W_X12_putsSigns_B47 {M : Nat} {z : mG} {x1 : Int32} {s : mG} (hM : sub 928455029464035206174343168 M) (h : KB M z s) : pk (F_X12_putsSigns_B47 x1 s) (se (fun τ => KB M z τ.2) (fun τ => KB M z τ.2)) := by
  unfold F_X12_putsSigns_B47
  refine pk_ite ?_ ?_
  · refine pk_b1 (W_X12_forgets (sub_tr (by decide +kernel) hM) h) (fun s_1 (h_2 : KB M z s_1) => ?_)
    exact pk_some h_2
  · refine pk_nn ?_
    extract_lets +onlyGivenNames s_3
    have h_4 : KB M z s_3 := KB_mu h (hM 89 (by decide +kernel))
    clear_value s_3
    exact pk_some h_4
theorem W_X12_putsSigns_L47 {M : Nat} {z : mG} {x1 : Int32} {s : mG} (hM : sub 928455029464035206174343168 M) (h : KB M z s) : pk (F_X12_putsSigns_L47 x1 s) (fun τ => KB M z τ.2) := by
  unfold F_X12_putsSigns_L47
  refine pk_whl (fun v => KB M z v.2) h (fun v hv => ?_)
  obtain ⟨y0, y1⟩ := v
  exact W_X12_putsSigns_B47 (sub_tr (by decide +kernel) hM) hv
theorem W_X12_putsSigns_B13 {M : Nat} {z : mG} {x1 : Int32} {s : mG} (hM : sub 928455029464035206174343168 M) (h : KB M z s) : pk (F_X12_putsSigns_B13 x1 s) (se (fun τ => KB M z τ.2) (fun τ => KB M z τ.2)) := by
  unfold F_X12_putsSigns_B13
  refine pk_ite ?_ ?_
  · refine pk_b1r ?_
    exact (W_X12_putsSigns_L47 (sub_tr (by decide +kernel) hM) h)
  · refine pk_nn ?_
    refine pk_nn ?_
    extract_lets +onlyGivenNames s_1
    have h_2 : KB M z s_1 := KB_mu h (hM 89 (by decide +kernel))
    clear_value s_1
    exact pk_some h_2
theorem W_X12_putsSigns_L13 {M : Nat} {z : mG} {x1 : Int32} {s : mG} (hM : sub 928455029464035206174343168 M) (h : KB M z s) : pk (F_X12_putsSigns_L13 x1 s) (fun τ => KB M z τ.2) := by
  unfold F_X12_putsSigns_L13
  refine pk_whl (fun v => KB M z v.2) h (fun v hv => ?_)
  obtain ⟨y0, y1⟩ := v
  exact W_X12_putsSigns_B13 (sub_tr (by decide +kernel) hM) hv
theorem W_X12_putsSigns {M : Nat} {z : mG} {s : mG} (hM : sub 928455029464035206174343168 M) (h : KB M z s) : pk (F_X12_putsSigns s) (fun τ => KB M z τ.2) := by
  unfold F_X12_putsSigns
  extract_lets +onlyGivenNames s_1
  have h_2 : KB M z s_1 := KB_mu h (hM 89 (by decide +kernel))
  clear_value s_1
  exact (W_X12_putsSigns_L13 (sub_tr (by decide +kernel) hM) h_2)
theorem W_X12_putsShifts_B13 {M : Nat} {z : mG} {x1 : Int32} {s : mG} (hM : sub 928455029464035206174343168 M) (h : KB M z s) : pk (F_X12_putsShifts_B13 x1 s) (se (fun τ => KB M z τ.2) (fun τ => KB M z τ.2)) := by
  unfold F_X12_putsShifts_B13
  refine pk_ite ?_ ?_
  · refine pk_b1 (W_X12_forgets (sub_tr (by decide +kernel) hM) h) (fun s_1 (h_2 : KB M z s_1) => ?_)
    exact pk_some h_2
  · refine pk_nn ?_
    refine pk_nn ?_
    extract_lets +onlyGivenNames s_3
    have h_4 : KB M z s_3 := KB_mu h (hM 89 (by decide +kernel))
    clear_value s_3
    exact pk_some h_4
theorem W_X12_putsShifts_L13 {M : Nat} {z : mG} {x1 : Int32} {s : mG} (hM : sub 928455029464035206174343168 M) (h : KB M z s) : pk (F_X12_putsShifts_L13 x1 s) (fun τ => KB M z τ.2) := by
  unfold F_X12_putsShifts_L13
  refine pk_whl (fun v => KB M z v.2) h (fun v hv => ?_)
  obtain ⟨y0, y1⟩ := v
  exact W_X12_putsShifts_B13 (sub_tr (by decide +kernel) hM) hv
theorem W_X12_putsShifts {M : Nat} {z : mG} {s : mG} (hM : sub 928455029464035206174343168 M) (h : KB M z s) : pk (F_X12_putsShifts s) (fun τ => KB M z τ.2) := by
  unfold F_X12_putsShifts
  extract_lets +onlyGivenNames s_1
  have h_2 : KB M z s_1 := KB_mu h (hM 89 (by decide +kernel))
  clear_value s_1
  exact (W_X12_putsShifts_L13 (sub_tr (by decide +kernel) hM) h_2)
theorem W_X12_text_60 {M : Nat} {z : mG} {x1 : Int32} {y0 : Int32} {s : mG} (hM : sub 928455029464035206174343168 M) (h : KB M z s) : pk (F_X12_text_60 x1 y0 s) (fun τ => KB M z τ.2) := by
  unfold F_X12_text_60
  extract_lets +onlyGivenNames s_1
  have h_2 : KB M z s_1 := KB_mu h (hM 88 (by decide +kernel))
  clear_value s_1
  refine pk_ite ?_ ?_
  · extract_lets +onlyGivenNames s_3
    have h_4 : KB M z s_3 := KB_mu h_2 (hM 88 (by decide +kernel))
    clear_value s_3
    extract_lets +onlyGivenNames s_5
    have h_6 : KB M z s_5 := KB_mu h_4 (hM 88 (by decide +kernel))
    clear_value s_5
    exact pk_some h_6
  · refine pk_ite ?_ ?_
    · refine pk_b2 (W_X12_putsLaw (sub_tr (by decide +kernel) hM) h_2) (fun _ s_7 (h_8 : KB M z s_7) => ?_)
      exact pk_some h_8
    · refine pk_ite ?_ ?_
      · refine pk_b2 (W_X12_putsSigns (sub_tr (by decide +kernel) hM) h_2) (fun _ s_9 (h_10 : KB M z s_9) => ?_)
        exact pk_some h_10
      · refine pk_b2 (W_X12_putsShifts (sub_tr (by decide +kernel) hM) h_2) (fun _ s_11 (h_12 : KB M z s_11) => ?_)
        exact pk_some h_12
theorem W_X12_text {M : Nat} {z : mG} {a1 : Int32} {s : mG} (hM : sub 35590776129454682903349821440 M) (h : KB M z s) : pk (F_X12_text a1 s) (fun τ => KB M z τ.2) := by
  unfold F_X12_text
  extract_lets +onlyGivenNames s_1
  have h_2 : KB M z s_1 := KB_mu h (hM 88 (by decide +kernel))
  clear_value s_1
  extract_lets +onlyGivenNames s_3
  have h_4 : KB M z s_3 := KB_mu h_2 (hM 88 (by decide +kernel))
  clear_value s_3
  refine pk_b1 pk_top (fun _ _ => ?_)
  refine pk_ite ?_ ?_
  · extract_lets +onlyGivenNames s_5
    have h_6 : KB M z s_5 := KB_mu h_4 (hM 88 (by decide +kernel))
    clear_value s_5
    exact pk_some h_6
  · extract_lets +onlyGivenNames s_7
    have h_8 : KB M z s_7 := KB_mu h_4 (hM 88 (by decide +kernel))
    clear_value s_7
    extract_lets +onlyGivenNames s_9
    have h_10 : KB M z s_9 := KB_mu h_8 (hM 88 (by decide +kernel))
    clear_value s_9
    extract_lets +onlyGivenNames s_11
    have h_12 : KB M z s_11 := KB_mu h_10 (hM 88 (by decide +kernel))
    clear_value s_11
    refine pk_b1 (W_X12_next0 (sub_tr (by decide +kernel) hM) h_12) (fun s_13 (h_14 : KB M z s_13) => ?_)
    refine pk_ite ?_ ?_
    · refine pk_b2 (W_X12_readsLaw (sub_tr (by decide +kernel) hM) h_14) (fun _ s_15 (h_16 : KB M z s_15) => ?_)
      exact (W_X12_text_60 (sub_tr (by decide +kernel) hM) h_16)
    · refine pk_b2 (W_X12_readsRows (sub_tr (by decide +kernel) hM) h_14) (fun _ s_17 (h_18 : KB M z s_17) => ?_)
      exact (W_X12_text_60 (sub_tr (by decide +kernel) hM) h_18)
theorem W_X12_comesTo_180 {M : Nat} {z : mG} {x1 : Int32} {x3 : Int32} {x4 : Int32} {x5 : Int32} {s : mG} (hM : sub 0 M) (h : KB M z s) : pk (F_X12_comesTo_180 x1 x3 x4 x5 s) (se (fun τ => KB M z τ.2.2.2.2) (fun τ => KB M z τ.2)) := by
  unfold F_X12_comesTo_180
  exact pk_some h
theorem W_X12_comesTo_86 {M : Nat} {z : mG} {x1 : Int32} {x3 : Int32} {x4 : Int32} {x5 : Int32} {y1 : Int32} {y2 : Int32} {s : mG} (hM : sub 79228162514264337593543950336 M) (h : KB M z s) : pk (F_X12_comesTo_86 x1 x3 x4 x5 y1 y2 s) (se (fun τ => KB M z τ.2.2.2.2) (fun τ => KB M z τ.2)) := by
  unfold F_X12_comesTo_86
  refine pk_nn ?_
  extract_lets +onlyGivenNames s_1
  have h_2 : KB M z s_1 := KB_mu h (hM 96 (by decide +kernel))
  clear_value s_1
  exact (W_X12_comesTo_180 (sub_tr (by decide +kernel) hM) h_2)
theorem W_X12_comesTo_B6 {M : Nat} {z : mG} {x1 : Int32} {x3 : Int32} {x4 : Int32} {x5 : Int32} {s : mG} (hM : sub 79228162514264337593543950336 M) (h : KB M z s) : pk (F_X12_comesTo_B6 x1 x3 x4 x5 s) (se (fun τ => KB M z τ.2.2.2.2) (fun τ => KB M z τ.2)) := by
  unfold F_X12_comesTo_B6
  refine pk_ite ?_ ?_
  · exact pk_some h
  · refine pk_nn ?_
    extract_lets +onlyGivenNames v_1
    clear_value v_1
    refine pk_nn ?_
    extract_lets +onlyGivenNames v_2
    clear_value v_2
    refine pk_ite ?_ ?_
    · refine pk_ite ?_ ?_
      · refine pk_nn ?_
        refine pk_nn ?_
        refine pk_nn ?_
        extract_lets +onlyGivenNames s_3
        have h_4 : KB M z s_3 := KB_mu h (hM 96 (by decide +kernel))
        clear_value s_3
        exact (W_X12_comesTo_180 (sub_tr (by decide +kernel) hM) h_4)
      · refine pk_ite ?_ ?_
        · refine pk_nn ?_
          refine pk_nn ?_
          extract_lets +onlyGivenNames s_5
          have h_6 : KB M z s_5 := KB_mu h (hM 96 (by decide +kernel))
          clear_value s_5
          exact (W_X12_comesTo_180 (sub_tr (by decide +kernel) hM) h_6)
        · refine pk_nn ?_
          refine pk_nn ?_
          refine pk_b1 pk_top (fun _ _ => ?_)
          refine pk_nn ?_
          extract_lets +onlyGivenNames s_7
          have h_8 : KB M z s_7 := KB_mu h (hM 96 (by decide +kernel))
          clear_value s_7
          exact (W_X12_comesTo_180 (sub_tr (by decide +kernel) hM) h_8)
    · refine pk_ite ?_ ?_
      · exact (W_X12_comesTo_86 (sub_tr (by decide +kernel) hM) h)
      · refine pk_nn ?_
        exact (W_X12_comesTo_86 (sub_tr (by decide +kernel) hM) h)
theorem W_X12_comesTo_L6 {M : Nat} {z : mG} {x1 : Int32} {x3 : Int32} {x4 : Int32} {x5 : Int32} {s : mG} (hM : sub 79228162514264337593543950336 M) (h : KB M z s) : pk (F_X12_comesTo_L6 x1 x3 x4 x5 s) (fun τ => KB M z τ.2) := by
  unfold F_X12_comesTo_L6
  refine pk_whl (fun v => KB M z v.2.2.2.2) h (fun v hv => ?_)
  obtain ⟨y0, y1, y2, y3, y4⟩ := v
  exact W_X12_comesTo_B6 (sub_tr (by decide +kernel) hM) hv
theorem W_X12_comesTo {M : Nat} {z : mG} {a1 : Int32} {a2 : Int32} {a3 : Int32} {s : mG} (hM : sub 79228162514264337593543950336 M) (h : KB M z s) : pk (F_X12_comesTo a1 a2 a3 s) (fun τ => KB M z τ.2) := by
  unfold F_X12_comesTo
  exact (W_X12_comesTo_L6 (sub_tr (by decide +kernel) hM) h)
theorem W_X12_isSo_52 {M : Nat} {z : mG} {s : mG} (hM : sub 0 M) (h : KB M z s) : pk (F_X12_isSo_52 s) (fun τ => KB M z τ.2) := by
  unfold F_X12_isSo_52
  exact pk_some h
theorem W_X12_isSo {M : Nat} {z : mG} {a1 : Int32} {s : mG} (hM : sub 79228162514264337593543950336 M) (h : KB M z s) : pk (F_X12_isSo a1 s) (fun τ => KB M z τ.2) := by
  unfold F_X12_isSo
  refine pk_nn ?_
  refine pk_nn ?_
  refine pk_ite ?_ ?_
  · exact (W_X12_isSo_52 (sub_tr (by decide +kernel) hM) h)
  · refine pk_nn ?_
    refine pk_nn ?_
    refine pk_b2 (W_X12_comesTo (sub_tr (by decide +kernel) hM) h) (fun _ s_1 (h_2 : KB M z s_1) => ?_)
    refine pk_ite ?_ ?_
    · exact (W_X12_isSo_52 (sub_tr (by decide +kernel) hM) h_2)
    · exact pk_some h_2
theorem W_X12_saysIn_187 {M : Nat} {z : mG} {x1 : Int32} {x2 : Int32} {x6 : Int32} {s : mG} (hM : sub 0 M) (h : KB M z s) : pk (F_X12_saysIn_187 x1 x2 x6 s) (se (fun τ => KB M z τ.2.2.2) (fun τ => KB M z τ.2)) := by
  unfold F_X12_saysIn_187
  exact pk_some h
theorem W_X12_saysIn_B113 {M : Nat} {z : mG} {x1 : Int32} {x2 : Int32} {x6 : Int32} {s : mG} (hM : sub 79228162514264337593543950336 M) (h : KB M z s) : pk (F_X12_saysIn_B113 x1 x2 x6 s) (se (fun τ => KB M z τ.2.2.2) (fun τ => KB M z τ.2)) := by
  unfold F_X12_saysIn_B113
  refine pk_ite ?_ ?_
  · refine pk_b1 pk_top (fun _ _ => ?_)
    exact pk_some h
  · refine pk_nn ?_
    refine pk_ite ?_ ?_
    · refine pk_b2 (W_X12_isSo (sub_tr (by decide +kernel) hM) h) (fun _ s_1 (h_2 : KB M z s_1) => ?_)
      refine pk_ite ?_ ?_
      · exact (W_X12_saysIn_187 (sub_tr (by decide +kernel) hM) h_2)
      · refine pk_nn ?_
        refine pk_nn ?_
        refine pk_b2 (W_X12_comesTo (sub_tr (by decide +kernel) hM) h_2) (fun _ s_3 (h_4 : KB M z s_3) => ?_)
        refine pk_b1 pk_top (fun _ _ => ?_)
        refine pk_b1 pk_top (fun _ _ => ?_)
        exact pk_some h_4
    · exact (W_X12_saysIn_187 (sub_tr (by decide +kernel) hM) h)
theorem W_X12_saysIn_L113 {M : Nat} {z : mG} {x1 : Int32} {x2 : Int32} {x6 : Int32} {s : mG} (hM : sub 79228162514264337593543950336 M) (h : KB M z s) : pk (F_X12_saysIn_L113 x1 x2 x6 s) (fun τ => KB M z τ.2) := by
  unfold F_X12_saysIn_L113
  refine pk_whl (fun v => KB M z v.2.2.2) h (fun v hv => ?_)
  obtain ⟨y0, y1, y2, y3⟩ := v
  exact W_X12_saysIn_B113 (sub_tr (by decide +kernel) hM) hv
theorem W_X12_saysIn_100 {M : Nat} {z : mG} {x1 : Int32} {x2 : Int32} {x5 : Int32} {y1 : Int32} {y2 : Int32} {s : mG} (hM : sub 237684487542793012780631851008 M) (h : KB M z s) : pk (F_X12_saysIn_100 x1 x2 x5 y1 y2 s) (fun τ => KB M z τ.2) := by
  unfold F_X12_saysIn_100
  refine pk_nn ?_
  extract_lets +onlyGivenNames s_1
  have h_2 : KB M z s_1 := KB_mu h (hM 97 (by decide +kernel))
  clear_value s_1
  extract_lets +onlyGivenNames s_3
  have h_4 : KB M z s_3 := KB_mu h_2 (hM 97 (by decide +kernel))
  clear_value s_3
  exact (W_X12_saysIn_L113 (sub_tr (by decide +kernel) hM) h_4)
theorem W_X12_saysIn {M : Nat} {z : mG} {a1 : Int32} {a2 : Int32} {a3 : Int32} {a4 : Int32} {a5 : Int32} {s : mG} (hM : sub 237684487542793012780631851008 M) (h : KB M z s) : pk (F_X12_saysIn a1 a2 a3 a4 a5 s) (fun τ => KB M z τ.2) := by
  unfold F_X12_saysIn
  extract_lets +onlyGivenNames s_1
  have h_2 : KB M z s_1 := KB_mu h (hM 97 (by decide +kernel))
  clear_value s_1
  refine pk_nn ?_
  extract_lets +onlyGivenNames s_3
  have h_4 : KB M z s_3 := KB_mu h_2 (hM 97 (by decide +kernel))
  clear_value s_3
  refine pk_nn ?_
  extract_lets +onlyGivenNames s_5
  have h_6 : KB M z s_5 := KB_mu h_4 (hM 97 (by decide +kernel))
  clear_value s_5
  extract_lets +onlyGivenNames s_7
  have h_8 : KB M z s_7 := KB_mu h_6 (hM 97 (by decide +kernel))
  clear_value s_7
  extract_lets +onlyGivenNames s_9
  have h_10 : KB M z s_9 := KB_mu h_8 (hM 97 (by decide +kernel))
  clear_value s_9
  extract_lets +onlyGivenNames s_11
  have h_12 : KB M z s_11 := KB_mu h_10 (hM 97 (by decide +kernel))
  clear_value s_11
  extract_lets +onlyGivenNames s_13
  have h_14 : KB M z s_13 := KB_mu h_12 (hM 97 (by decide +kernel))
  clear_value s_13
  refine pk_b1 pk_top (fun _ _ => ?_)
  refine pk_ite ?_ ?_
  · exact (W_X12_saysIn_100 (sub_tr (by decide +kernel) hM) h_14)
  · exact (W_X12_saysIn_100 (sub_tr (by decide +kernel) hM) h_14)
theorem W_X12_saysNow {M : Nat} {z : mG} {a1 : Int32} {a2 : Int32} {s : mG} (hM : sub 237684487542793012780631851008 M) (h : KB M z s) : pk (F_X12_saysNow a1 a2 s) (fun τ => KB M z τ.2) := by
  unfold F_X12_saysNow
  refine pk_nn ?_
  refine pk_b2 (W_X12_saysIn (sub_tr (by decide +kernel) hM) h) (fun _ s_1 (h_2 : KB M z s_1) => ?_)
  exact pk_some h_2
theorem W_X12_keeps_B51 {M : Nat} {z : mG} {x1 : Int32} {s : mG} (hM : sub 2785365088392105618523029504 M) (h : KB M z s) : pk (F_X12_keeps_B51 x1 s) (se (fun τ => KB M z τ.2) (fun τ => KB M z τ)) := by
  unfold F_X12_keeps_B51
  refine pk_ite ?_ ?_
  · extract_lets +onlyGivenNames s_1
    have h_2 : KB M z s_1 := KB_mu h (hM 88 (by decide +kernel))
    clear_value s_1
    exact pk_some h_2
  · refine pk_nn ?_
    refine pk_nn ?_
    extract_lets +onlyGivenNames s_3
    have h_4 : KB M z s_3 := KB_mu h (hM 91 (by decide +kernel))
    clear_value s_3
    exact pk_some h_4
theorem W_X12_keeps_L51 {M : Nat} {z : mG} {x1 : Int32} {s : mG} (hM : sub 2785365088392105618523029504 M) (h : KB M z s) : pk (F_X12_keeps_L51 x1 s) (fun τ => KB M z τ) := by
  unfold F_X12_keeps_L51
  refine pk_whl (fun v => KB M z v.2) h (fun v hv => ?_)
  obtain ⟨y0, y1⟩ := v
  exact W_X12_keeps_B51 (sub_tr (by decide +kernel) hM) hv
theorem W_X12_keeps_49 {M : Nat} {z : mG} {s : mG} (hM : sub 2785365088392105618523029504 M) (h : KB M z s) : pk (F_X12_keeps_49 s) (fun τ => KB M z τ) := by
  unfold F_X12_keeps_49
  exact (W_X12_keeps_L51 (sub_tr (by decide +kernel) hM) h)
theorem W_X12_keeps_B11 {M : Nat} {z : mG} {x1 : Int32} {s : mG} (hM : sub 2785365088392105618523029504 M) (h : KB M z s) : pk (F_X12_keeps_B11 x1 s) (se (fun τ => KB M z τ.2) (fun τ => KB M z τ)) := by
  unfold F_X12_keeps_B11
  refine pk_ite ?_ ?_
  · extract_lets +onlyGivenNames s_1
    have h_2 : KB M z s_1 := KB_mu h (hM 88 (by decide +kernel))
    clear_value s_1
    refine pk_b1r ?_
    exact (W_X12_keeps_49 (sub_tr (by decide +kernel) hM) h_2)
  · refine pk_nn ?_
    refine pk_nn ?_
    extract_lets +onlyGivenNames s_3
    have h_4 : KB M z s_3 := KB_mu h (hM 91 (by decide +kernel))
    clear_value s_3
    exact pk_some h_4
theorem W_X12_keeps_L11 {M : Nat} {z : mG} {x1 : Int32} {s : mG} (hM : sub 2785365088392105618523029504 M) (h : KB M z s) : pk (F_X12_keeps_L11 x1 s) (fun τ => KB M z τ) := by
  unfold F_X12_keeps_L11
  refine pk_whl (fun v => KB M z v.2) h (fun v hv => ?_)
  obtain ⟨y0, y1⟩ := v
  exact W_X12_keeps_B11 (sub_tr (by decide +kernel) hM) hv
theorem W_X12_keeps {M : Nat} {z : mG} {s : mG} (hM : sub 2785365088392105618523029504 M) (h : KB M z s) : pk (F_X12_keeps s) (fun τ => KB M z τ) := by
  unfold F_X12_keeps
  refine pk_ite ?_ ?_
  · exact (W_X12_keeps_L11 (sub_tr (by decide +kernel) hM) h)
  · exact (W_X12_keeps_49 (sub_tr (by decide +kernel) hM) h)
theorem W_X12_undo_B21 {M : Nat} {z : mG} {x1 : Int32} {s : mG} (hM : sub 618970019642690137449562112 M) (h : KB M z s) : pk (F_X12_undo_B21 x1 s) (se (fun τ => KB M z τ.2) (fun τ => KB M z τ.2)) := by
  unfold F_X12_undo_B21
  refine pk_ite ?_ ?_
  · exact pk_some h
  · refine pk_nn ?_
    refine pk_nn ?_
    extract_lets +onlyGivenNames s_1
    have h_2 : KB M z s_1 := KB_mu h (hM 89 (by decide +kernel))
    clear_value s_1
    exact pk_some h_2
theorem W_X12_undo_L21 {M : Nat} {z : mG} {x1 : Int32} {s : mG} (hM : sub 618970019642690137449562112 M) (h : KB M z s) : pk (F_X12_undo_L21 x1 s) (fun τ => KB M z τ.2) := by
  unfold F_X12_undo_L21
  refine pk_whl (fun v => KB M z v.2) h (fun v hv => ?_)
  obtain ⟨y0, y1⟩ := v
  exact W_X12_undo_B21 (sub_tr (by decide +kernel) hM) hv
theorem W_X12_undo {M : Nat} {z : mG} {s : mG} (hM : sub 928455029464035206174343168 M) (h : KB M z s) : pk (F_X12_undo s) (fun τ => KB M z τ.2) := by
  unfold F_X12_undo
  refine pk_ite ?_ ?_
  · exact pk_some h
  · extract_lets +onlyGivenNames s_1
    have h_2 : KB M z s_1 := KB_mu h (hM 88 (by decide +kernel))
    clear_value s_1
    exact (W_X12_undo_L21 (sub_tr (by decide +kernel) hM) h_2)
theorem W_X12_notes {M : Nat} {z : mG} {a1 : Int32} {a2 : Int32} {a3 : Int32} {a4 : Int32} {s : mG} (hM : sub 618970019642690137449562112 M) (h : KB M z s) : pk (F_X12_notes a1 a2 a3 a4 s) (fun τ => KB M z τ) := by
  unfold F_X12_notes
  refine pk_ite ?_ ?_
  · exact pk_some h
  · extract_lets +onlyGivenNames v_1
    clear_value v_1
    refine pk_nn ?_
    extract_lets +onlyGivenNames s_2
    have h_3 : KB M z s_2 := KB_mu h (hM 89 (by decide +kernel))
    clear_value s_2
    refine pk_nn ?_
    extract_lets +onlyGivenNames s_4
    have h_5 : KB M z s_4 := KB_mu h_3 (hM 89 (by decide +kernel))
    clear_value s_4
    refine pk_nn ?_
    extract_lets +onlyGivenNames s_6
    have h_7 : KB M z s_6 := KB_mu h_5 (hM 89 (by decide +kernel))
    clear_value s_6
    refine pk_nn ?_
    extract_lets +onlyGivenNames s_8
    have h_9 : KB M z s_8 := KB_mu h_7 (hM 89 (by decide +kernel))
    clear_value s_8
    refine pk_nn ?_
    extract_lets +onlyGivenNames s_10
    have h_11 : KB M z s_10 := KB_mu h_9 (hM 89 (by decide +kernel))
    clear_value s_10
    extract_lets +onlyGivenNames s_12
    have h_13 : KB M z s_12 := KB_mu h_11 (hM 89 (by decide +kernel))
    clear_value s_12
    exact pk_some h_13
theorem W_X12_hangsOn_62 {M : Nat} {z : mG} {x1 : Int32} {s : mG} (hM : sub 0 M) (h : KB M z s) : pk (F_X12_hangsOn_62 x1 s) (fun τ => KB M z τ.2) := by
  unfold F_X12_hangsOn_62
  refine pk_b1 pk_top (fun _ _ => ?_)
  refine pk_ite ?_ ?_
  · exact pk_some h
  · exact pk_some h
theorem W_X12_hangsOn_29 {M : Nat} {z : mG} {x1 : Int32} {y0 : Int32} {s : mG} (hM : sub 0 M) (h : KB M z s) : pk (F_X12_hangsOn_29 x1 y0 s) (fun τ => KB M z τ.2) := by
  unfold F_X12_hangsOn_29
  refine pk_nn ?_
  extract_lets +onlyGivenNames v_1
  clear_value v_1
  refine pk_ite ?_ ?_
  · exact (W_X12_hangsOn_62 (sub_tr (by decide +kernel) hM) h)
  · refine pk_b1 pk_top (fun _ _ => ?_)
    refine pk_ite ?_ ?_
    · exact pk_some h
    · exact (W_X12_hangsOn_62 (sub_tr (by decide +kernel) hM) h)
theorem W_X12_hangsOn {M : Nat} {z : mG} {a1 : Int32} {a2 : Int32} {a3 : Int32} {s : mG} (hM : sub 618970019642690137449562112 M) (h : KB M z s) : pk (F_X12_hangsOn a1 a2 a3 s) (fun τ => KB M z τ.2) := by
  unfold F_X12_hangsOn
  refine pk_b2 (W_X12_draw (sub_tr (by decide +kernel) hM) h) (fun _ s_1 (h_2 : KB M z s_1) => ?_)
  refine pk_ite ?_ ?_
  · refine pk_b2 (W_X12_draw (sub_tr (by decide +kernel) hM) h_2) (fun _ s_3 (h_4 : KB M z s_3) => ?_)
    refine pk_ite ?_ ?_
    · exact (W_X12_hangsOn_29 (sub_tr (by decide +kernel) hM) h_4)
    · exact (W_X12_hangsOn_29 (sub_tr (by decide +kernel) hM) h_4)
  · exact pk_some h_2
theorem W_X12_isMoved_147 {M : Nat} {z : mG} {x1 : Int32} {x7 : Int32} {y1 : Int32} {s : mG} (hM : sub 618970019642690137449562112 M) (h : KB M z s) : pk (F_X12_isMoved_147 x1 x7 y1 s) (fun τ => KB M z τ.2) := by
  unfold F_X12_isMoved_147
  refine pk_b1 pk_top (fun _ _ => ?_)
  refine pk_b1 (W_X12_notes (sub_tr (by decide +kernel) hM) h) (fun s_1 (h_2 : KB M z s_1) => ?_)
  exact pk_some h_2
theorem W_X12_isMoved_136 {M : Nat} {z : mG} {x1 : Int32} {x2 : Int32} {x7 : Int32} {y1 : Int32} {y2 : Int32} {s : mG} (hM : sub 618970019642690137449562112 M) (h : KB M z s) : pk (F_X12_isMoved_136 x1 x2 x7 y1 y2 s) (fun τ => KB M z τ.2) := by
  unfold F_X12_isMoved_136
  refine pk_nn ?_
  extract_lets +onlyGivenNames s_1
  have h_2 : KB M z s_1 := KB_mu h (hM 89 (by decide +kernel))
  clear_value s_1
  refine pk_ite ?_ ?_
  · exact (W_X12_isMoved_147 (sub_tr (by decide +kernel) hM) h_2)
  · exact (W_X12_isMoved_147 (sub_tr (by decide +kernel) hM) h_2)
theorem W_X12_isMoved_110 {M : Nat} {z : mG} {x1 : Int32} {x2 : Int32} {x5 : Int32} {x6 : Int32} {x7 : Int32} {y1 : Int32} {y2 : Int32} {s : mG} (hM : sub 618970019642690137449562112 M) (h : KB M z s) : pk (F_X12_isMoved_110 x1 x2 x5 x6 x7 y1 y2 s) (fun τ => KB M z τ.2) := by
  unfold F_X12_isMoved_110
  refine pk_nn ?_
  extract_lets +onlyGivenNames s_1
  have h_2 : KB M z s_1 := KB_mu h (hM 89 (by decide +kernel))
  clear_value s_1
  refine pk_ite ?_ ?_
  · refine pk_b2 (W_X12_hangsOn (sub_tr (by decide +kernel) hM) h_2) (fun _ s_3 (h_4 : KB M z s_3) => ?_)
    exact (W_X12_isMoved_136 (sub_tr (by decide +kernel) hM) h_4)
  · exact (W_X12_isMoved_136 (sub_tr (by decide +kernel) hM) h_2)
theorem W_X12_isMoved_92 {M : Nat} {z : mG} {x1 : Int32} {x2 : Int32} {x5 : Int32} {x6 : Int32} {y0 : Int32} {s : mG} (hM : sub 618970019642690137449562112 M) (h : KB M z s) : pk (F_X12_isMoved_92 x1 x2 x5 x6 y0 s) (fun τ => KB M z τ.2) := by
  unfold F_X12_isMoved_92
  refine pk_ite ?_ ?_
  · exact (W_X12_isMoved_110 (sub_tr (by decide +kernel) hM) h)
  · exact (W_X12_isMoved_110 (sub_tr (by decide +kernel) hM) h)
theorem W_X12_isMoved_30 {M : Nat} {z : mG} {x1 : Int32} {x2 : Int32} {y1 : Int32} {s : mG} (hM : sub 238303457562435702918081413120 M) (h : KB M z s) : pk (F_X12_isMoved_30 x1 x2 y1 s) (fun τ => KB M z τ.2) := by
  unfold F_X12_isMoved_30
  refine pk_b2 (W_X12_saysNow (sub_tr (by decide +kernel) hM) h) (fun _ s_1 (h_2 : KB M z s_1) => ?_)
  refine pk_b2 (W_X12_saysNow (sub_tr (by decide +kernel) hM) h_2) (fun _ s_3 (h_4 : KB M z s_3) => ?_)
  refine pk_b2 (W_X12_saysNow (sub_tr (by decide +kernel) hM) h_4) (fun _ s_5 (h_6 : KB M z s_5) => ?_)
  refine pk_b2 (W_X12_saysNow (sub_tr (by decide +kernel) hM) h_6) (fun _ s_7 (h_8 : KB M z s_7) => ?_)
  refine pk_b2 (W_X12_draw (sub_tr (by decide +kernel) hM) h_8) (fun _ s_9 (h_10 : KB M z s_9) => ?_)
  refine pk_ite ?_ ?_
  · refine pk_b2 (W_X12_draw (sub_tr (by decide +kernel) hM) h_10) (fun _ s_11 (h_12 : KB M z s_11) => ?_)
    refine pk_ite ?_ ?_
    · exact (W_X12_isMoved_92 (sub_tr (by decide +kernel) hM) h_12)
    · exact (W_X12_isMoved_92 (sub_tr (by decide +kernel) hM) h_12)
  · exact pk_some h_10
theorem W_X12_isMoved_17 {M : Nat} {z : mG} {x1 : Int32} {y0 : Int32} {s : mG} (hM : sub 238303457562435702918081413120 M) (h : KB M z s) : pk (F_X12_isMoved_17 x1 y0 s) (fun τ => KB M z τ.2) := by
  unfold F_X12_isMoved_17
  refine pk_ite ?_ ?_
  · exact (W_X12_isMoved_30 (sub_tr (by decide +kernel) hM) h)
  · exact (W_X12_isMoved_30 (sub_tr (by decide +kernel) hM) h)
theorem W_X12_isMoved {M : Nat} {z : mG} {a1 : Int32} {s : mG} (hM : sub 238303457562435702918081413120 M) (h : KB M z s) : pk (F_X12_isMoved a1 s) (fun τ => KB M z τ.2) := by
  unfold F_X12_isMoved
  refine pk_nn ?_
  refine pk_ite ?_ ?_
  · exact (W_X12_isMoved_17 (sub_tr (by decide +kernel) hM) h)
  · exact (W_X12_isMoved_17 (sub_tr (by decide +kernel) hM) h)
theorem W_X12_anHour_65 {M : Nat} {z : mG} {x2 : Int32} {y0 : Int32} {y1 : Int32} {s : mG} (hM : sub 0 M) (h : KB M z s) : pk (F_X12_anHour_65 x2 y0 y1 s) (se (fun τ => KB M z τ.2.2) (fun τ => KB M z τ.2)) := by
  unfold F_X12_anHour_65
  exact pk_some h
theorem W_X12_anHour_54 {M : Nat} {z : mG} {x1 : Int32} {x2 : Int32} {x3 : Int32} {y1 : Int32} {y2 : Int32} {s : mG} (hM : sub 618970019642690137449562112 M) (h : KB M z s) : pk (F_X12_anHour_54 x1 x2 x3 y1 y2 s) (se (fun τ => KB M z τ.2.2) (fun τ => KB M z τ.2)) := by
  unfold F_X12_anHour_54
  refine pk_nn ?_
  extract_lets +onlyGivenNames s_1
  have h_2 : KB M z s_1 := KB_mu h (hM 89 (by decide +kernel))
  clear_value s_1
  refine pk_ite ?_ ?_
  · exact (W_X12_anHour_65 (sub_tr (by decide +kernel) hM) h_2)
  · exact (W_X12_anHour_65 (sub_tr (by decide +kernel) hM) h_2)
theorem W_X12_anHour_B4 {M : Nat} {z : mG} {x1 : Int32} {x2 : Int32} {s : mG} (hM : sub 238303457562435702918081413120 M) (h : KB M z s) : pk (F_X12_anHour_B4 x1 x2 s) (se (fun τ => KB M z τ.2.2) (fun τ => KB M z τ.2)) := by
  unfold F_X12_anHour_B4
  refine pk_ite ?_ ?_
  · extract_lets +onlyGivenNames s_1
    have h_2 : KB M z s_1 := KB_mu h (hM 89 (by decide +kernel))
    clear_value s_1
    exact pk_some h_2
  · refine pk_b2 (W_X12_isMoved (sub_tr (by decide +kernel) hM) h) (fun _ s_3 (h_4 : KB M z s_3) => ?_)
    refine pk_ite ?_ ?_
    · refine pk_nn ?_
      refine pk_b1 pk_top (fun _ _ => ?_)
      exact (W_X12_anHour_54 (sub_tr (by decide +kernel) hM) h_4)
    · exact (W_X12_anHour_54 (sub_tr (by decide +kernel) hM) h_4)
theorem W_X12_anHour_L4 {M : Nat} {z : mG} {x1 : Int32} {x2 : Int32} {s : mG} (hM : sub 238303457562435702918081413120 M) (h : KB M z s) : pk (F_X12_anHour_L4 x1 x2 s) (fun τ => KB M z τ.2) := by
  unfold F_X12_anHour_L4
  refine pk_whl (fun v => KB M z v.2.2) h (fun v hv => ?_)
  obtain ⟨y0, y1, y2⟩ := v
  exact W_X12_anHour_B4 (sub_tr (by decide +kernel) hM) hv
theorem W_X12_anHour {M : Nat} {z : mG} {s : mG} (hM : sub 238303457562435702918081413120 M) (h : KB M z s) : pk (F_X12_anHour s) (fun τ => KB M z τ.2) := by
  unfold F_X12_anHour
  exact (W_X12_anHour_L4 (sub_tr (by decide +kernel) hM) h)
theorem W_X12_hours_24 {M : Nat} {z : mG} {s : mG} (hM : sub 0 M) (h : KB M z s) : pk (F_X12_hours_24 s) (fun τ => KB M z τ.2) := by
  unfold F_X12_hours_24
  exact pk_some h
theorem W_X12_hours_B30 {M : Nat} {z : mG} {x1 : Int32} {x2 : Int32} {x3 : Int32} {s : mG} (hM : sub 241088822650827808536604442624 M) (h : KB M z s) : pk (F_X12_hours_B30 x1 x2 x3 s) (se (fun τ => KB M z τ.2.2.2) (fun τ => KB M z τ.2)) := by
  unfold F_X12_hours_B30
  refine pk_ite ?_ ?_
  · exact pk_some h
  · refine pk_b1 (W_X12_keeps (sub_tr (by decide +kernel) hM) h) (fun s_1 (h_2 : KB M z s_1) => ?_)
    refine pk_b2 (W_X12_anHour (sub_tr (by decide +kernel) hM) h_2) (fun _ s_3 (h_4 : KB M z s_3) => ?_)
    exact pk_some h_4
theorem W_X12_hours_L30 {M : Nat} {z : mG} {x1 : Int32} {x2 : Int32} {x3 : Int32} {s : mG} (hM : sub 241088822650827808536604442624 M) (h : KB M z s) : pk (F_X12_hours_L30 x1 x2 x3 s) (fun τ => KB M z τ.2) := by
  unfold F_X12_hours_L30
  refine pk_whl (fun v => KB M z v.2.2.2) h (fun v hv => ?_)
  obtain ⟨y0, y1, y2, y3⟩ := v
  exact W_X12_hours_B30 (sub_tr (by decide +kernel) hM) hv
theorem W_X12_hours {M : Nat} {z : mG} {a1 : Int32} {s : mG} (hM : sub 241088822650827808536604442624 M) (h : KB M z s) : pk (F_X12_hours a1 s) (fun τ => KB M z τ.2) := by
  unfold F_X12_hours
  refine pk_b1 pk_top (fun _ _ => ?_)
  refine pk_ite ?_ ?_
  · exact (W_X12_hours_24 (sub_tr (by decide +kernel) hM) h)
  · refine pk_ite ?_ ?_
    · exact (W_X12_hours_L30 (sub_tr (by decide +kernel) hM) h)
    · exact (W_X12_hours_24 (sub_tr (by decide +kernel) hM) h)
theorem W_X12_hang_36 {M : Nat} {z : mG} {s : mG} (hM : sub 0 M) (h : KB M z s) : pk (F_X12_hang_36 s) (fun τ => KB M z τ.2) := by
  unfold F_X12_hang_36
  exact pk_some h
theorem W_X12_hang {M : Nat} {z : mG} {a1 : Int32} {a2 : Int32} {s : mG} (hM : sub 3404335108034795755972591616 M) (h : KB M z s) : pk (F_X12_hang a1 a2 s) (fun τ => KB M z τ.2) := by
  unfold F_X12_hang
  refine pk_b1 pk_top (fun _ _ => ?_)
  refine pk_ite ?_ ?_
  · exact (W_X12_hang_36 (sub_tr (by decide +kernel) hM) h)
  · refine pk_b1 pk_top (fun _ _ => ?_)
    refine pk_ite ?_ ?_
    · exact (W_X12_hang_36 (sub_tr (by decide +kernel) hM) h)
    · refine pk_nn ?_
      refine pk_ite ?_ ?_
      · exact (W_X12_hang_36 (sub_tr (by decide +kernel) hM) h)
      · refine pk_b1 pk_top (fun _ _ => ?_)
        refine pk_ite ?_ ?_
        · refine pk_b1 (W_X12_keeps (sub_tr (by decide +kernel) hM) h) (fun s_1 (h_2 : KB M z s_1) => ?_)
          refine pk_nn ?_
          extract_lets +onlyGivenNames s_3
          have h_4 : KB M z s_3 := KB_mu h_2 (hM 89 (by decide +kernel))
          clear_value s_3
          refine pk_b1 (W_X12_notes (sub_tr (by decide +kernel) hM) h_4) (fun s_5 (h_6 : KB M z s_5) => ?_)
          exact pk_some h_6
        · exact (W_X12_hang_36 (sub_tr (by decide +kernel) hM) h)
theorem W_X12_looks_43 {M : Nat} {z : mG} {s : mG} (hM : sub 0 M) (h : KB M z s) : pk (F_X12_looks_43 s) (fun τ => KB M z τ.2) := by
  unfold F_X12_looks_43
  exact pk_some h
theorem W_X12_looks {M : Nat} {z : mG} {a1 : Int32} {a2 : Int32} {a3 : Int32} {s : mG} (hM : sub 3404335108034795755972591616 M) (h : KB M z s) : pk (F_X12_looks a1 a2 a3 s) (fun τ => KB M z τ.2) := by
  unfold F_X12_looks
  refine pk_b1 pk_top (fun _ _ => ?_)
  refine pk_ite ?_ ?_
  · exact (W_X12_looks_43 (sub_tr (by decide +kernel) hM) h)
  · refine pk_b1 pk_top (fun _ _ => ?_)
    refine pk_ite ?_ ?_
    · exact (W_X12_looks_43 (sub_tr (by decide +kernel) hM) h)
    · refine pk_b1 pk_top (fun _ _ => ?_)
      refine pk_ite ?_ ?_
      · exact (W_X12_looks_43 (sub_tr (by decide +kernel) hM) h)
      · refine pk_nn ?_
        refine pk_ite ?_ ?_
        · exact (W_X12_looks_43 (sub_tr (by decide +kernel) hM) h)
        · refine pk_b1 (W_X12_keeps (sub_tr (by decide +kernel) hM) h) (fun s_1 (h_2 : KB M z s_1) => ?_)
          refine pk_nn ?_
          extract_lets +onlyGivenNames s_3
          have h_4 : KB M z s_3 := KB_mu h_2 (hM 89 (by decide +kernel))
          clear_value s_3
          exact pk_some h_4
theorem W_X12_sureOf_70 {M : Nat} {z : mG} {x1 : Int32} {x2 : Int64} {x4 : Int32} {s : mG} (hM : sub 0 M) (h : KB M z s) : pk (F_X12_sureOf_70 x1 x2 x4 s) (se (fun τ => KB M z τ.2.2.2) (fun τ => KB M z τ.2)) := by
  unfold F_X12_sureOf_70
  exact pk_some h
theorem W_X12_sureOf_B16 {M : Nat} {z : mG} {x1 : Int32} {x2 : Int64} {x4 : Int32} {s : mG} (hM : sub 0 M) (h : KB M z s) : pk (F_X12_sureOf_B16 x1 x2 x4 s) (se (fun τ => KB M z τ.2.2.2) (fun τ => KB M z τ.2)) := by
  unfold F_X12_sureOf_B16
  refine pk_ite ?_ ?_
  · exact pk_some h
  · refine pk_nn ?_
    refine pk_ite ?_ ?_
    · exact (W_X12_sureOf_70 (sub_tr (by decide +kernel) hM) h)
    · refine pk_nn ?_
      refine pk_b1 pk_top (fun _ _ => ?_)
      exact (W_X12_sureOf_70 (sub_tr (by decide +kernel) hM) h)
theorem W_X12_sureOf_L16 {M : Nat} {z : mG} {x1 : Int32} {x2 : Int64} {x4 : Int32} {s : mG} (hM : sub 0 M) (h : KB M z s) : pk (F_X12_sureOf_L16 x1 x2 x4 s) (fun τ => KB M z τ.2) := by
  unfold F_X12_sureOf_L16
  refine pk_whl (fun v => KB M z v.2.2.2) h (fun v hv => ?_)
  obtain ⟨y0, y1, y2, y3⟩ := v
  exact W_X12_sureOf_B16 (sub_tr (by decide +kernel) hM) hv
theorem W_X12_sureOf {M : Nat} {z : mG} {a1 : Int32} {s : mG} (hM : sub 237684487542793012780631851008 M) (h : KB M z s) : pk (F_X12_sureOf a1 s) (fun τ => KB M z τ.2) := by
  unfold F_X12_sureOf
  refine pk_b2 (W_X12_saysNow (sub_tr (by decide +kernel) hM) h) (fun _ s_1 (h_2 : KB M z s_1) => ?_)
  extract_lets +onlyGivenNames v_3
  clear_value v_3
  exact (W_X12_sureOf_L16 (sub_tr (by decide +kernel) hM) h_2)
theorem W_X12_next {M : Nat} {z : mG} {a1 : Int32} {s : mG} (hM : sub 237684487542793012780631851008 M) (h : KB M z s) : pk (F_X12_next a1 s) (fun τ => KB M z τ.2) := by
  unfold F_X12_next
  refine pk_b1 pk_top (fun _ _ => ?_)
  refine pk_ite ?_ ?_
  · exact pk_some h
  · refine pk_b2 (W_X12_sureOf (sub_tr (by decide +kernel) hM) h) (fun _ s_1 (h_2 : KB M z s_1) => ?_)
    refine pk_b1 pk_top (fun _ _ => ?_)
    refine pk_b1 pk_top (fun _ _ => ?_)
    exact pk_some h_2
theorem W_X12_looksAt_98 {M : Nat} {z : mG} {x2 : Int32} {x6 : Int32} {s : mG} (hM : sub 0 M) (h : KB M z s) : pk (F_X12_looksAt_98 x2 x6 s) (fun τ => KB M z τ.2) := by
  unfold F_X12_looksAt_98
  refine pk_ite ?_ ?_
  · exact pk_some h
  · exact pk_some h
theorem W_X12_looksAt_70 {M : Nat} {z : mG} {x2 : Int32} {x5 : Int32} {x6 : Int32} {x7 : Int32} {y1 : Int64} {y2 : Int32} {y3 : Int32} {s : mG} (hM : sub 0 M) (h : KB M z s) : pk (F_X12_looksAt_70 x2 x5 x6 x7 y1 y2 y3 s) (se (fun τ => KB M z τ.2.2.2.2.2) (fun τ => KB M z τ.2)) := by
  unfold F_X12_looksAt_70
  refine pk_b1 pk_top (fun _ _ => ?_)
  extract_lets +onlyGivenNames v_1
  clear_value v_1
  refine pk_b1 pk_top (fun _ _ => ?_)
  exact pk_some h
theorem W_X12_looksAt_B35 {M : Nat} {z : mG} {x2 : Int32} {x3 : Int64} {x5 : Int32} {x6 : Int32} {x7 : Int32} {s : mG} (hM : sub 0 M) (h : KB M z s) : pk (F_X12_looksAt_B35 x2 x3 x5 x6 x7 s) (se (fun τ => KB M z τ.2.2.2.2.2) (fun τ => KB M z τ.2)) := by
  unfold F_X12_looksAt_B35
  refine pk_ite ?_ ?_
  · refine pk_b1r ?_
    exact (W_X12_looksAt_98 (sub_tr (by decide +kernel) hM) h)
  · refine pk_ite ?_ ?_
    · refine pk_b1r ?_
      exact (W_X12_looksAt_98 (sub_tr (by decide +kernel) hM) h)
    · refine pk_b1 pk_top (fun _ _ => ?_)
      refine pk_ite ?_ ?_
      · exact (W_X12_looksAt_70 (sub_tr (by decide +kernel) hM) h)
      · exact (W_X12_looksAt_70 (sub_tr (by decide +kernel) hM) h)
theorem W_X12_looksAt_L35 {M : Nat} {z : mG} {x2 : Int32} {x3 : Int64} {x5 : Int32} {x6 : Int32} {x7 : Int32} {s : mG} (hM : sub 0 M) (h : KB M z s) : pk (F_X12_looksAt_L35 x2 x3 x5 x6 x7 s) (fun τ => KB M z τ.2) := by
  unfold F_X12_looksAt_L35
  refine pk_whl (fun v => KB M z v.2.2.2.2.2) h (fun v hv => ?_)
  obtain ⟨y0, y1, y2, y3, y4, y5⟩ := v
  exact W_X12_looksAt_B35 (sub_tr (by decide +kernel) hM) hv
end
end
/-! 59.v4.foot -/
section
noncomputable section
theorem W_X12_looksAt {M : Nat} {z : mG} {a1 : Int32} {a2 : Int32} {s : mG} (hM : sub 237684487542793012780631851008 M) (h : KB M z s) : pk (F_X12_looksAt a1 a2 s) (fun τ => KB M z τ.2) := by
  unfold F_X12_looksAt
  refine pk_b1 pk_top (fun _ _ => ?_)
  refine pk_ite ?_ ?_
  · exact pk_some h
  · refine pk_b2 (W_X12_sureOf (sub_tr (by decide +kernel) hM) h) (fun _ s_1 (h_2 : KB M z s_1) => ?_)
    refine pk_b1 pk_top (fun _ _ => ?_)
    refine pk_b1 pk_top (fun _ _ => ?_)
    exact (W_X12_looksAt_L35 (sub_tr (by decide +kernel) hM) h_2)
theorem W_X12_say_22 {M : Nat} {z : mG} {s : mG} (hM : sub 0 M) (h : KB M z s) : pk (F_X12_say_22 s) (fun τ => KB M z τ.2) := by
  unfold F_X12_say_22
  exact pk_some h
theorem W_X12_say {M : Nat} {z : mG} {a1 : Int32} {a2 : Int32} {a3 : Int32} {s : mG} (hM : sub 237684487542793012780631851008 M) (h : KB M z s) : pk (F_X12_say a1 a2 a3 s) (fun τ => KB M z τ.2) := by
  unfold F_X12_say
  refine pk_b1 pk_top (fun _ _ => ?_)
  refine pk_ite ?_ ?_
  · exact (W_X12_say_22 (sub_tr (by decide +kernel) hM) h)
  · refine pk_b1 pk_top (fun _ _ => ?_)
    refine pk_ite ?_ ?_
    · exact (W_X12_say_22 (sub_tr (by decide +kernel) hM) h)
    · refine pk_b1 pk_top (fun _ _ => ?_)
      refine pk_ite ?_ ?_
      · exact (W_X12_say_22 (sub_tr (by decide +kernel) hM) h)
      · refine pk_b2 (W_X12_sureOf (sub_tr (by decide +kernel) hM) h) (fun _ s_1 (h_2 : KB M z s_1) => ?_)
        refine pk_ite ?_ ?_
        · exact pk_some h_2
        · exact pk_some h_2
theorem W_X12_caller_59 {M : Nat} {z : mG} {s : mG} (hM : sub 0 M) (h : KB M z s) : pk (F_X12_caller_59 s) (fun τ => KB M z τ.2) := by
  unfold F_X12_caller_59
  exact pk_some h
theorem W_X12_caller {M : Nat} {z : mG} {a1 : Int32} {a2 : Int32} {a3 : Int32} {s : mG} (hM : sub 618970019642690137449562112 M) (h : KB M z s) : pk (F_X12_caller a1 a2 a3 s) (fun τ => KB M z τ.2) := by
  unfold F_X12_caller
  refine pk_ite ?_ ?_
  · extract_lets +onlyGivenNames s_1
    have h_2 : KB M z s_1 := KB_mu h (hM 89 (by decide +kernel))
    clear_value s_1
    exact pk_some h_2
  · refine pk_b1 pk_top (fun _ _ => ?_)
    refine pk_ite ?_ ?_
    · exact (W_X12_caller_59 (sub_tr (by decide +kernel) hM) h)
    · refine pk_b1 pk_top (fun _ _ => ?_)
      refine pk_ite ?_ ?_
      · exact (W_X12_caller_59 (sub_tr (by decide +kernel) hM) h)
      · refine pk_b1 pk_top (fun _ _ => ?_)
        refine pk_ite ?_ ?_
        · exact (W_X12_caller_59 (sub_tr (by decide +kernel) hM) h)
        · refine pk_ite ?_ ?_
          · exact (W_X12_caller_59 (sub_tr (by decide +kernel) hM) h)
          · extract_lets +onlyGivenNames v_3
            clear_value v_3
            refine pk_nn ?_
            extract_lets +onlyGivenNames s_4
            have h_5 : KB M z s_4 := KB_mu h (hM 89 (by decide +kernel))
            clear_value s_4
            refine pk_nn ?_
            extract_lets +onlyGivenNames s_6
            have h_7 : KB M z s_6 := KB_mu h_5 (hM 89 (by decide +kernel))
            clear_value s_6
            refine pk_nn ?_
            extract_lets +onlyGivenNames s_8
            have h_9 : KB M z s_8 := KB_mu h_7 (hM 89 (by decide +kernel))
            clear_value s_8
            extract_lets +onlyGivenNames s_10
            have h_11 : KB M z s_10 := KB_mu h_9 (hM 89 (by decide +kernel))
            clear_value s_10
            exact pk_some h_11
theorem W_X12_said_149 {M : Nat} {z : mG} {x1 : Int32} {x2 : Int32} {x4 : Int32} {y0 : Int32} {y1 : Int64} {s : mG} (hM : sub 0 M) (h : KB M z s) : pk (F_X12_said_149 x1 x2 x4 y0 y1 s) (se (fun τ => KB M z τ.2.2.2.2) (fun τ => KB M z τ.2)) := by
  unfold F_X12_said_149
  extract_lets +onlyGivenNames v_1
  clear_value v_1
  exact pk_some h
theorem W_X12_said_108 {M : Nat} {z : mG} {x1 : Int32} {x3 : Int32} {x4 : Int32} {x5 : Int32} {x6 : Int32} {x7 : Int64} {y0 : Int32} {y1 : Int32} {s : mG} (hM : sub 0 M) (h : KB M z s) : pk (F_X12_said_108 x1 x3 x4 x5 x6 x7 y0 y1 s) (se (fun τ => KB M z τ.2.2.2.2) (fun τ => KB M z τ.2)) := by
  unfold F_X12_said_108
  refine pk_ite ?_ ?_
  · refine pk_nn ?_
    exact (W_X12_said_149 (sub_tr (by decide +kernel) hM) h)
  · refine pk_nn ?_
    exact (W_X12_said_149 (sub_tr (by decide +kernel) hM) h)
theorem W_X12_said_79 {M : Nat} {z : mG} {x1 : Int32} {x2 : Int32} {x3 : Int32} {x4 : Int32} {x5 : Int32} {y0 : Int32} {s : mG} (hM : sub 237684487542793012780631851008 M) (h : KB M z s) : pk (F_X12_said_79 x1 x2 x3 x4 x5 y0 s) (se (fun τ => KB M z τ.2.2.2.2) (fun τ => KB M z τ.2)) := by
  unfold F_X12_said_79
  refine pk_nn ?_
  refine pk_b2 (W_X12_sureOf (sub_tr (by decide +kernel) hM) h) (fun _ s_1 (h_2 : KB M z s_1) => ?_)
  refine pk_ite ?_ ?_
  · exact (W_X12_said_108 (sub_tr (by decide +kernel) hM) h_2)
  · exact (W_X12_said_108 (sub_tr (by decide +kernel) hM) h_2)
theorem W_X12_said_B18 {M : Nat} {z : mG} {x1 : Int32} {x2 : Int32} {x3 : Int32} {x4 : Int32} {s : mG} (hM : sub 237684487542793012780631851008 M) (h : KB M z s) : pk (F_X12_said_B18 x1 x2 x3 x4 s) (se (fun τ => KB M z τ.2.2.2.2) (fun τ => KB M z τ.2)) := by
  unfold F_X12_said_B18
  refine pk_ite ?_ ?_
  · refine pk_ite ?_ ?_
    · exact pk_some h
    · exact pk_some h
  · extract_lets +onlyGivenNames v_1
    clear_value v_1
    refine pk_nn ?_
    refine pk_nn ?_
    refine pk_nn ?_
    refine pk_b2 (W_X12_say (sub_tr (by decide +kernel) hM) h) (fun _ s_2 (h_3 : KB M z s_2) => ?_)
    refine pk_ite ?_ ?_
    · exact (W_X12_said_79 (sub_tr (by decide +kernel) hM) h_3)
    · exact (W_X12_said_79 (sub_tr (by decide +kernel) hM) h_3)
theorem W_X12_said_L18 {M : Nat} {z : mG} {x1 : Int32} {x2 : Int32} {x3 : Int32} {x4 : Int32} {s : mG} (hM : sub 237684487542793012780631851008 M) (h : KB M z s) : pk (F_X12_said_L18 x1 x2 x3 x4 s) (fun τ => KB M z τ.2) := by
  unfold F_X12_said_L18
  refine pk_whl (fun v => KB M z v.2.2.2.2) h (fun v hv => ?_)
  obtain ⟨y0, y1, y2, y3, y4⟩ := v
  exact W_X12_said_B18 (sub_tr (by decide +kernel) hM) hv
theorem W_X12_said {M : Nat} {z : mG} {a1 : Int32} {s : mG} (hM : sub 237684487542793012780631851008 M) (h : KB M z s) : pk (F_X12_said a1 s) (fun τ => KB M z τ.2) := by
  unfold F_X12_said
  refine pk_b1 pk_top (fun _ _ => ?_)
  refine pk_ite ?_ ?_
  · exact pk_some h
  · exact (W_X12_said_L18 (sub_tr (by decide +kernel) hM) h)
theorem W_X12_pair_20 {M : Nat} {z : mG} {s : mG} (hM : sub 0 M) (h : KB M z s) : pk (F_X12_pair_20 s) (fun τ => KB M z τ.2) := by
  unfold F_X12_pair_20
  exact pk_some h
theorem W_X12_pair_105 {M : Nat} {z : mG} {x1 : Int32} {x2 : Int64} {x4 : Int32} {x5 : Int32} {x6 : Int32} {x7 : Int32} {s : mG} (hM : sub 0 M) (h : KB M z s) : pk (F_X12_pair_105 x1 x2 x4 x5 x6 x7 s) (se (fun τ => KB M z τ.2.2.2.2.2.2) (se (fun τ => KB M z τ.2.2.2.2.2) (fun τ => KB M z τ.2))) := by
  unfold F_X12_pair_105
  exact pk_some h
theorem W_X12_pair_B53 {M : Nat} {z : mG} {x1 : Int32} {x2 : Int64} {x4 : Int32} {x5 : Int32} {x6 : Int32} {x7 : Int32} {s : mG} (hM : sub 237684487542793012780631851008 M) (h : KB M z s) : pk (F_X12_pair_B53 x1 x2 x4 x5 x6 x7 s) (se (fun τ => KB M z τ.2.2.2.2.2.2) (se (fun τ => KB M z τ.2.2.2.2.2) (fun τ => KB M z τ.2))) := by
  unfold F_X12_pair_B53
  refine pk_ite ?_ ?_
  · exact pk_some h
  · refine pk_b2 (W_X12_sureOf (sub_tr (by decide +kernel) hM) h) (fun _ s_1 (h_2 : KB M z s_1) => ?_)
    refine pk_b2 (W_X12_sureOf (sub_tr (by decide +kernel) hM) h_2) (fun _ s_3 (h_4 : KB M z s_3) => ?_)
    extract_lets +onlyGivenNames v_5
    clear_value v_5
    refine pk_ite ?_ ?_
    · exact (W_X12_pair_105 (sub_tr (by decide +kernel) hM) h_4)
    · exact (W_X12_pair_105 (sub_tr (by decide +kernel) hM) h_4)
theorem W_X12_pair_L53 {M : Nat} {z : mG} {x1 : Int32} {x2 : Int64} {x4 : Int32} {x5 : Int32} {x6 : Int32} {x7 : Int32} {s : mG} (hM : sub 237684487542793012780631851008 M) (h : KB M z s) : pk (F_X12_pair_L53 x1 x2 x4 x5 x6 x7 s) (se (fun τ => KB M z τ.2.2.2.2.2) (fun τ => KB M z τ.2)) := by
  unfold F_X12_pair_L53
  refine pk_whl (fun v => KB M z v.2.2.2.2.2.2) h (fun v hv => ?_)
  obtain ⟨y0, y1, y2, y3, y4, y5, y6⟩ := v
  exact W_X12_pair_B53 (sub_tr (by decide +kernel) hM) hv
theorem W_X12_pair_B35 {M : Nat} {z : mG} {x1 : Int32} {x2 : Int64} {x4 : Int32} {x5 : Int32} {x6 : Int32} {s : mG} (hM : sub 237684487542793012780631851008 M) (h : KB M z s) : pk (F_X12_pair_B35 x1 x2 x4 x5 x6 s) (se (fun τ => KB M z τ.2.2.2.2.2) (fun τ => KB M z τ.2)) := by
  unfold F_X12_pair_B35
  refine pk_ite ?_ ?_
  · refine pk_ite ?_ ?_
    · exact pk_some h
    · refine pk_ite ?_ ?_
      · exact pk_some h
      · exact pk_some h
  · exact (W_X12_pair_L53 (sub_tr (by decide +kernel) hM) h)
theorem W_X12_pair_L35 {M : Nat} {z : mG} {x1 : Int32} {x2 : Int64} {x4 : Int32} {x5 : Int32} {x6 : Int32} {s : mG} (hM : sub 237684487542793012780631851008 M) (h : KB M z s) : pk (F_X12_pair_L35 x1 x2 x4 x5 x6 s) (fun τ => KB M z τ.2) := by
  unfold F_X12_pair_L35
  refine pk_whl (fun v => KB M z v.2.2.2.2.2) h (fun v hv => ?_)
  obtain ⟨y0, y1, y2, y3, y4, y5⟩ := v
  exact W_X12_pair_B35 (sub_tr (by decide +kernel) hM) hv
theorem W_X12_pair {M : Nat} {z : mG} {a1 : Int32} {s : mG} (hM : sub 237684487542793012780631851008 M) (h : KB M z s) : pk (F_X12_pair a1 s) (fun τ => KB M z τ.2) := by
  unfold F_X12_pair
  refine pk_b1 pk_top (fun _ _ => ?_)
  refine pk_ite ?_ ?_
  · exact (W_X12_pair_20 (sub_tr (by decide +kernel) hM) h)
  · refine pk_ite ?_ ?_
    · exact (W_X12_pair_L35 (sub_tr (by decide +kernel) hM) h)
    · exact (W_X12_pair_20 (sub_tr (by decide +kernel) hM) h)
theorem W_X12_laysChances_116 {M : Nat} {z : mG} {x1 : Int32} {x2 : Int64} {x4 : Int32} {y1 : Int32} {y2 : Int64} {y3 : Int64} {s : mG} (hM : sub 0 M) (h : KB M z s) : pk (F_X12_laysChances_116 x1 x2 x4 y1 y2 y3 s) (se (fun τ => KB M z τ.2.2.2) (se (fun τ => KB M z τ.2) (fun τ => KB M z τ))) := by
  unfold F_X12_laysChances_116
  refine pk_nn ?_
  extract_lets +onlyGivenNames s_1
  have h_2 : KB M z s_1 := h
  clear_value s_1
  exact pk_some h_2
theorem W_X12_laysChances_B64 {M : Nat} {z : mG} {x1 : Int32} {x2 : Int64} {x4 : Int32} {s : mG} (hM : sub 0 M) (h : KB M z s) : pk (F_X12_laysChances_B64 x1 x2 x4 s) (se (fun τ => KB M z τ.2.2.2) (se (fun τ => KB M z τ.2) (fun τ => KB M z τ))) := by
  unfold F_X12_laysChances_B64
  refine pk_ite ?_ ?_
  · exact pk_some h
  · refine pk_nn ?_
    refine pk_ite ?_ ?_
    · exact (W_X12_laysChances_116 (sub_tr (by decide +kernel) hM) h)
    · refine pk_nn ?_
      exact (W_X12_laysChances_116 (sub_tr (by decide +kernel) hM) h)
theorem W_X12_laysChances_L64 {M : Nat} {z : mG} {x1 : Int32} {x2 : Int64} {x4 : Int32} {s : mG} (hM : sub 0 M) (h : KB M z s) : pk (F_X12_laysChances_L64 x1 x2 x4 s) (se (fun τ => KB M z τ.2) (fun τ => KB M z τ)) := by
  unfold F_X12_laysChances_L64
  refine pk_whl (fun v => KB M z v.2.2.2) h (fun v hv => ?_)
  obtain ⟨y0, y1, y2, y3⟩ := v
  exact W_X12_laysChances_B64 (sub_tr (by decide +kernel) hM) hv
theorem W_X12_laysChances_B38 {M : Nat} {z : mG} {x1 : Int32} {s : mG} (hM : sub 237684487542793012780631851008 M) (h : KB M z s) : pk (F_X12_laysChances_B38 x1 s) (se (fun τ => KB M z τ.2) (fun τ => KB M z τ)) := by
  unfold F_X12_laysChances_B38
  refine pk_ite ?_ ?_
  · exact pk_some h
  · refine pk_b2 (W_X12_sureOf (sub_tr (by decide +kernel) hM) h) (fun _ s_1 (h_2 : KB M z s_1) => ?_)
    exact (W_X12_laysChances_L64 (sub_tr (by decide +kernel) hM) h_2)
theorem W_X12_laysChances_L38 {M : Nat} {z : mG} {x1 : Int32} {s : mG} (hM : sub 237684487542793012780631851008 M) (h : KB M z s) : pk (F_X12_laysChances_L38 x1 s) (fun τ => KB M z τ) := by
  unfold F_X12_laysChances_L38
  refine pk_whl (fun v => KB M z v.2) h (fun v hv => ?_)
  obtain ⟨y0, y1⟩ := v
  exact W_X12_laysChances_B38 (sub_tr (by decide +kernel) hM) hv
theorem W_X12_laysChances_29 {M : Nat} {z : mG} {x1 : Int32} {y1 : Int32} {y2 : Int64} {s : mG} (hM : sub 0 M) (h : KB M z s) : pk (F_X12_laysChances_29 x1 y1 y2 s) (se (fun τ => KB M z τ.2) (fun τ => KB M z τ)) := by
  unfold F_X12_laysChances_29
  refine pk_nn ?_
  extract_lets +onlyGivenNames s_1
  have h_2 : KB M z s_1 := h
  clear_value s_1
  exact pk_some h_2
theorem W_X12_laysChances_B2 {M : Nat} {z : mG} {x1 : Int32} {s : mG} (hM : sub 237684487542793012780631851008 M) (h : KB M z s) : pk (F_X12_laysChances_B2 x1 s) (se (fun τ => KB M z τ.2) (fun τ => KB M z τ)) := by
  unfold F_X12_laysChances_B2
  refine pk_ite ?_ ?_
  · refine pk_b1r ?_
    exact (W_X12_laysChances_L38 (sub_tr (by decide +kernel) hM) h)
  · refine pk_ite ?_ ?_
    · exact (W_X12_laysChances_29 (sub_tr (by decide +kernel) hM) h)
    · exact (W_X12_laysChances_29 (sub_tr (by decide +kernel) hM) h)
theorem W_X12_laysChances_L2 {M : Nat} {z : mG} {x1 : Int32} {s : mG} (hM : sub 237684487542793012780631851008 M) (h : KB M z s) : pk (F_X12_laysChances_L2 x1 s) (fun τ => KB M z τ) := by
  unfold F_X12_laysChances_L2
  refine pk_whl (fun v => KB M z v.2) h (fun v hv => ?_)
  obtain ⟨y0, y1⟩ := v
  exact W_X12_laysChances_B2 (sub_tr (by decide +kernel) hM) hv
theorem W_X12_laysChances {M : Nat} {z : mG} {s : mG} (hM : sub 237684487542793012780631851008 M) (h : KB M z s) : pk (F_X12_laysChances s) (fun τ => KB M z τ) := by
  unfold F_X12_laysChances
  exact (W_X12_laysChances_L2 (sub_tr (by decide +kernel) hM) h)
theorem W_X12_many_98 {M : Nat} {z : mG} {x1 : Int32} {x4 : Int32} {x5 : Int32} {s : mG} (hM : sub 0 M) (h : KB M z s) : pk (F_X12_many_98 x1 x4 x5 s) (se (fun τ => KB M z τ.2.2.2) (fun τ => KB M z τ.2)) := by
  unfold F_X12_many_98
  exact pk_some h
theorem W_X12_many_B64 {M : Nat} {z : mG} {x1 : Int32} {x4 : Int32} {x5 : Int32} {s : mG} (hM : sub 0 M) (h : KB M z s) : pk (F_X12_many_B64 x1 x4 x5 s) (se (fun τ => KB M z τ.2.2.2) (fun τ => KB M z τ.2)) := by
  unfold F_X12_many_B64
  refine pk_ite ?_ ?_
  · refine pk_ite ?_ ?_
    · exact pk_some h
    · refine pk_nn ?_
      extract_lets +onlyGivenNames v_1
      clear_value v_1
      exact pk_some h
  · refine pk_nn ?_
    refine pk_nn ?_
    refine pk_ite ?_ ?_
    · exact (W_X12_many_98 (sub_tr (by decide +kernel) hM) h)
    · exact (W_X12_many_98 (sub_tr (by decide +kernel) hM) h)
theorem W_X12_many_L64 {M : Nat} {z : mG} {x1 : Int32} {x4 : Int32} {x5 : Int32} {s : mG} (hM : sub 0 M) (h : KB M z s) : pk (F_X12_many_L64 x1 x4 x5 s) (fun τ => KB M z τ.2) := by
  unfold F_X12_many_L64
  refine pk_whl (fun v => KB M z v.2.2.2) h (fun v hv => ?_)
  obtain ⟨y0, y1, y2, y3⟩ := v
  exact W_X12_many_B64 (sub_tr (by decide +kernel) hM) hv
theorem W_X12_many_B16 {M : Nat} {z : mG} {x1 : Int32} {x2 : Int64} {x4 : Int32} {s : mG} (hM : sub 237684487542793012780631851008 M) (h : KB M z s) : pk (F_X12_many_B16 x1 x2 x4 s) (se (fun τ => KB M z τ.2.2.2) (fun τ => KB M z τ.2)) := by
  unfold F_X12_many_B16
  refine pk_ite ?_ ?_
  · refine pk_ite ?_ ?_
    · extract_lets +onlyGivenNames v_1
      clear_value v_1
      exact pk_some h
    · refine pk_b1 (W_X12_laysChances (sub_tr (by decide +kernel) hM) h) (fun s_2 (h_3 : KB M z s_2) => ?_)
      refine pk_b1r ?_
      exact (W_X12_many_L64 (sub_tr (by decide +kernel) hM) h_3)
  · refine pk_b2 (W_X12_sureOf (sub_tr (by decide +kernel) hM) h) (fun _ s_4 (h_5 : KB M z s_4) => ?_)
    exact pk_some h_5
theorem W_X12_many_L16 {M : Nat} {z : mG} {x1 : Int32} {x2 : Int64} {x4 : Int32} {s : mG} (hM : sub 237684487542793012780631851008 M) (h : KB M z s) : pk (F_X12_many_L16 x1 x2 x4 s) (fun τ => KB M z τ.2) := by
  unfold F_X12_many_L16
  refine pk_whl (fun v => KB M z v.2.2.2) h (fun v hv => ?_)
  obtain ⟨y0, y1, y2, y3⟩ := v
  exact W_X12_many_B16 (sub_tr (by decide +kernel) hM) hv
theorem W_X12_many {M : Nat} {z : mG} {a1 : Int32} {s : mG} (hM : sub 237684487542793012780631851008 M) (h : KB M z s) : pk (F_X12_many a1 s) (fun τ => KB M z τ.2) := by
  unfold F_X12_many
  refine pk_b1 pk_top (fun _ _ => ?_)
  refine pk_ite ?_ ?_
  · exact pk_some h
  · exact (W_X12_many_L16 (sub_tr (by decide +kernel) hM) h)
theorem W_X12_tagCostOf_B6 {M : Nat} {z : mG} {x1 : Int32} {x2 : Int32} {x3 : Int32} {x4 : Int32} {x5 : Int32} {s : mG} (hM : sub 237684487542793012780631851008 M) (h : KB M z s) : pk (F_X12_tagCostOf_B6 x1 x2 x3 x4 x5 s) (se (fun τ => KB M z τ.2.2.2.2.2) (fun τ => KB M z τ.2)) := by
  unfold F_X12_tagCostOf_B6
  refine pk_ite ?_ ?_
  · extract_lets +onlyGivenNames v_1
    clear_value v_1
    exact pk_some h
  · refine pk_nn ?_
    refine pk_b2 (W_X12_saysIn (sub_tr (by decide +kernel) hM) h) (fun _ s_2 (h_3 : KB M z s_2) => ?_)
    exact pk_some h_3
theorem W_X12_tagCostOf_L6 {M : Nat} {z : mG} {x1 : Int32} {x2 : Int32} {x3 : Int32} {x4 : Int32} {x5 : Int32} {s : mG} (hM : sub 237684487542793012780631851008 M) (h : KB M z s) : pk (F_X12_tagCostOf_L6 x1 x2 x3 x4 x5 s) (fun τ => KB M z τ.2) := by
  unfold F_X12_tagCostOf_L6
  refine pk_whl (fun v => KB M z v.2.2.2.2.2) h (fun v hv => ?_)
  obtain ⟨y0, y1, y2, y3, y4, y5⟩ := v
  exact W_X12_tagCostOf_B6 (sub_tr (by decide +kernel) hM) hv
theorem W_X12_tagCostOf {M : Nat} {z : mG} {a1 : Int32} {a2 : Int32} {a3 : Int32} {s : mG} (hM : sub 237684487542793012780631851008 M) (h : KB M z s) : pk (F_X12_tagCostOf a1 a2 a3 s) (fun τ => KB M z τ.2) := by
  unfold F_X12_tagCostOf
  exact (W_X12_tagCostOf_L6 (sub_tr (by decide +kernel) hM) h)
theorem W_X12_tag_22 {M : Nat} {z : mG} {s : mG} (hM : sub 0 M) (h : KB M z s) : pk (F_X12_tag_22 s) (fun τ => KB M z τ.2) := by
  unfold F_X12_tag_22
  exact pk_some h
theorem W_X12_tag_57 {M : Nat} {z : mG} {x1 : Int32} {x2 : Int32} {x3 : Int32} {x4 : Int32} {s : mG} (hM : sub 0 M) (h : KB M z s) : pk (F_X12_tag_57 x1 x2 x3 x4 s) (se (fun τ => KB M z τ.2.2.2.2) (fun τ => KB M z τ.2)) := by
  unfold F_X12_tag_57
  exact pk_some h
theorem W_X12_tag_B29 {M : Nat} {z : mG} {x1 : Int32} {x2 : Int32} {x3 : Int32} {x4 : Int32} {s : mG} (hM : sub 237684487542793012780631851008 M) (h : KB M z s) : pk (F_X12_tag_B29 x1 x2 x3 x4 s) (se (fun τ => KB M z τ.2.2.2.2) (fun τ => KB M z τ.2)) := by
  unfold F_X12_tag_B29
  refine pk_ite ?_ ?_
  · exact pk_some h
  · refine pk_b2 (W_X12_tagCostOf (sub_tr (by decide +kernel) hM) h) (fun _ s_1 (h_2 : KB M z s_1) => ?_)
    refine pk_b2 (W_X12_tagCostOf (sub_tr (by decide +kernel) hM) h_2) (fun _ s_3 (h_4 : KB M z s_3) => ?_)
    refine pk_ite ?_ ?_
    · exact (W_X12_tag_57 (sub_tr (by decide +kernel) hM) h_4)
    · exact (W_X12_tag_57 (sub_tr (by decide +kernel) hM) h_4)
theorem W_X12_tag_L29 {M : Nat} {z : mG} {x1 : Int32} {x2 : Int32} {x3 : Int32} {x4 : Int32} {s : mG} (hM : sub 237684487542793012780631851008 M) (h : KB M z s) : pk (F_X12_tag_L29 x1 x2 x3 x4 s) (fun τ => KB M z τ.2) := by
  unfold F_X12_tag_L29
  refine pk_whl (fun v => KB M z v.2.2.2.2) h (fun v hv => ?_)
  obtain ⟨y0, y1, y2, y3, y4⟩ := v
  exact W_X12_tag_B29 (sub_tr (by decide +kernel) hM) hv
theorem W_X12_tag {M : Nat} {z : mG} {a1 : Int32} {a2 : Int32} {s : mG} (hM : sub 237684487542793012780631851008 M) (h : KB M z s) : pk (F_X12_tag a1 a2 s) (fun τ => KB M z τ.2) := by
  unfold F_X12_tag
  refine pk_b1 pk_top (fun _ _ => ?_)
  refine pk_ite ?_ ?_
  · exact (W_X12_tag_22 (sub_tr (by decide +kernel) hM) h)
  · refine pk_b1 pk_top (fun _ _ => ?_)
    refine pk_ite ?_ ?_
    · exact (W_X12_tag_22 (sub_tr (by decide +kernel) hM) h)
    · exact (W_X12_tag_L29 (sub_tr (by decide +kernel) hM) h)
theorem W_X12_tagCost_42 {M : Nat} {z : mG} {s : mG} (hM : sub 0 M) (h : KB M z s) : pk (F_X12_tagCost_42 s) (fun τ => KB M z τ.2) := by
  unfold F_X12_tagCost_42
  exact pk_some h
theorem W_X12_tagCost {M : Nat} {z : mG} {a1 : Int32} {a2 : Int32} {a3 : Int32} {s : mG} (hM : sub 237684487542793012780631851008 M) (h : KB M z s) : pk (F_X12_tagCost a1 a2 a3 s) (fun τ => KB M z τ.2) := by
  unfold F_X12_tagCost
  refine pk_b1 pk_top (fun _ _ => ?_)
  refine pk_ite ?_ ?_
  · exact (W_X12_tagCost_42 (sub_tr (by decide +kernel) hM) h)
  · refine pk_b1 pk_top (fun _ _ => ?_)
    refine pk_ite ?_ ?_
    · exact (W_X12_tagCost_42 (sub_tr (by decide +kernel) hM) h)
    · refine pk_b1 pk_top (fun _ _ => ?_)
      refine pk_ite ?_ ?_
      · exact (W_X12_tagCost_42 (sub_tr (by decide +kernel) hM) h)
      · refine pk_b2 (W_X12_tagCostOf (sub_tr (by decide +kernel) hM) h) (fun _ s_1 (h_2 : KB M z s_1) => ?_)
        exact pk_some h_2
theorem W_X12_span_20 {M : Nat} {z : mG} {s : mG} (hM : sub 0 M) (h : KB M z s) : pk (F_X12_span_20 s) (fun τ => KB M z τ.2) := by
  unfold F_X12_span_20
  exact pk_some h
theorem W_X12_span_103 {M : Nat} {z : mG} {x4 : Int32} {s : mG} (hM : sub 0 M) (h : KB M z s) : pk (F_X12_span_103 x4 s) (fun τ => KB M z τ.2) := by
  unfold F_X12_span_103
  exact pk_some h
theorem W_X12_span_87 {M : Nat} {z : mG} {x1 : Int32} {x2 : Int32} {x3 : Int32} {x4 : Int32} {x5 : Int32} {s : mG} (hM : sub 0 M) (h : KB M z s) : pk (F_X12_span_87 x1 x2 x3 x4 x5 s) (se (fun τ => KB M z τ.2.2.2.2.2) (fun τ => KB M z τ.2)) := by
  unfold F_X12_span_87
  exact pk_some h
theorem W_X12_span_80 {M : Nat} {z : mG} {x1 : Int32} {x2 : Int32} {x5 : Int32} {x6 : Int32} {s : mG} (hM : sub 0 M) (h : KB M z s) : pk (F_X12_span_80 x1 x2 x5 x6 s) (se (fun τ => KB M z τ.2.2.2.2.2) (fun τ => KB M z τ.2)) := by
  unfold F_X12_span_80
  exact (W_X12_span_87 (sub_tr (by decide +kernel) hM) h)
theorem W_X12_span_B34 {M : Nat} {z : mG} {x1 : Int32} {x2 : Int32} {x3 : Int32} {x4 : Int32} {x5 : Int32} {s : mG} (hM : sub 0 M) (h : KB M z s) : pk (F_X12_span_B34 x1 x2 x3 x4 x5 s) (se (fun τ => KB M z τ.2.2.2.2.2) (fun τ => KB M z τ.2)) := by
  unfold F_X12_span_B34
  refine pk_ite ?_ ?_
  · refine pk_ite ?_ ?_
    · refine pk_b1r ?_
      exact (W_X12_span_103 (sub_tr (by decide +kernel) hM) h)
    · refine pk_ite ?_ ?_
      · refine pk_b1r ?_
        exact (W_X12_span_103 (sub_tr (by decide +kernel) hM) h)
      · exact pk_some h
  · refine pk_b1 pk_top (fun _ _ => ?_)
    refine pk_ite ?_ ?_
    · exact (W_X12_span_87 (sub_tr (by decide +kernel) hM) h)
    · refine pk_ite ?_ ?_
      · exact (W_X12_span_80 (sub_tr (by decide +kernel) hM) h)
      · refine pk_ite ?_ ?_
        · exact (W_X12_span_80 (sub_tr (by decide +kernel) hM) h)
        · exact (W_X12_span_87 (sub_tr (by decide +kernel) hM) h)
theorem W_X12_span_L34 {M : Nat} {z : mG} {x1 : Int32} {x2 : Int32} {x3 : Int32} {x4 : Int32} {x5 : Int32} {s : mG} (hM : sub 0 M) (h : KB M z s) : pk (F_X12_span_L34 x1 x2 x3 x4 x5 s) (fun τ => KB M z τ.2) := by
  unfold F_X12_span_L34
  refine pk_whl (fun v => KB M z v.2.2.2.2.2) h (fun v hv => ?_)
  obtain ⟨y0, y1, y2, y3, y4, y5⟩ := v
  exact W_X12_span_B34 (sub_tr (by decide +kernel) hM) hv
theorem W_X12_span {M : Nat} {z : mG} {a1 : Int32} {a2 : Int32} {s : mG} (hM : sub 237684487542793012780631851008 M) (h : KB M z s) : pk (F_X12_span a1 a2 s) (fun τ => KB M z τ.2) := by
  unfold F_X12_span
  refine pk_b1 pk_top (fun _ _ => ?_)
  refine pk_ite ?_ ?_
  · exact (W_X12_span_20 (sub_tr (by decide +kernel) hM) h)
  · refine pk_b1 pk_top (fun _ _ => ?_)
    refine pk_ite ?_ ?_
    · exact (W_X12_span_20 (sub_tr (by decide +kernel) hM) h)
    · refine pk_b1 (W_X12_laysChances (sub_tr (by decide +kernel) hM) h) (fun s_1 (h_2 : KB M z s_1) => ?_)
      exact (W_X12_span_L34 (sub_tr (by decide +kernel) hM) h_2)
theorem W_X12_laysOthers_115 {M : Nat} {z : mG} {x1 : Int32} {x2 : Int32} {s : mG} (hM : sub 0 M) (h : KB M z s) : pk (F_X12_laysOthers_115 x1 x2 s) (se (fun τ => KB M z τ.2.2) (fun τ => KB M z τ)) := by
  unfold F_X12_laysOthers_115
  exact pk_some h
theorem W_X12_laysOthers_B63 {M : Nat} {z : mG} {x1 : Int32} {x2 : Int32} {x3 : Int64} {x5 : Int32} {s : mG} (hM : sub 0 M) (h : KB M z s) : pk (F_X12_laysOthers_B63 x1 x2 x3 x5 s) (se (fun τ => KB M z τ.2.2.2.2) (se (fun τ => KB M z τ.2.2) (fun τ => KB M z τ))) := by
  unfold F_X12_laysOthers_B63
  refine pk_ite ?_ ?_
  · refine pk_b1r ?_
    exact (W_X12_laysOthers_115 (sub_tr (by decide +kernel) hM) h)
  · refine pk_nn ?_
    refine pk_nn ?_
    refine pk_nn ?_
    extract_lets +onlyGivenNames s_1
    have h_2 : KB M z s_1 := h
    clear_value s_1
    exact pk_some h_2
theorem W_X12_laysOthers_L63 {M : Nat} {z : mG} {x1 : Int32} {x2 : Int32} {x3 : Int64} {x5 : Int32} {s : mG} (hM : sub 0 M) (h : KB M z s) : pk (F_X12_laysOthers_L63 x1 x2 x3 x5 s) (se (fun τ => KB M z τ.2.2) (fun τ => KB M z τ)) := by
  unfold F_X12_laysOthers_L63
  refine pk_whl (fun v => KB M z v.2.2.2.2) h (fun v hv => ?_)
  obtain ⟨y0, y1, y2, y3, y4⟩ := v
  exact W_X12_laysOthers_B63 (sub_tr (by decide +kernel) hM) hv
theorem W_X12_laysOthers_B34 {M : Nat} {z : mG} {x1 : Int32} {x2 : Int32} {s : mG} (hM : sub 237684487542793012780631851008 M) (h : KB M z s) : pk (F_X12_laysOthers_B34 x1 x2 s) (se (fun τ => KB M z τ.2.2) (fun τ => KB M z τ)) := by
  unfold F_X12_laysOthers_B34
  refine pk_ite ?_ ?_
  · exact pk_some h
  · refine pk_ite ?_ ?_
    · exact (W_X12_laysOthers_115 (sub_tr (by decide +kernel) hM) h)
    · refine pk_b2 (W_X12_sureOf (sub_tr (by decide +kernel) hM) h) (fun _ s_1 (h_2 : KB M z s_1) => ?_)
      exact (W_X12_laysOthers_L63 (sub_tr (by decide +kernel) hM) h_2)
theorem W_X12_laysOthers_L34 {M : Nat} {z : mG} {x1 : Int32} {x2 : Int32} {s : mG} (hM : sub 237684487542793012780631851008 M) (h : KB M z s) : pk (F_X12_laysOthers_L34 x1 x2 s) (fun τ => KB M z τ) := by
  unfold F_X12_laysOthers_L34
  refine pk_whl (fun v => KB M z v.2.2) h (fun v hv => ?_)
  obtain ⟨y0, y1, y2⟩ := v
  exact W_X12_laysOthers_B34 (sub_tr (by decide +kernel) hM) hv
theorem W_X12_laysOthers_25 {M : Nat} {z : mG} {x1 : Int32} {x2 : Int32} {y1 : Int32} {y2 : Int64} {s : mG} (hM : sub 0 M) (h : KB M z s) : pk (F_X12_laysOthers_25 x1 x2 y1 y2 s) (se (fun τ => KB M z τ.2.2) (fun τ => KB M z τ)) := by
  unfold F_X12_laysOthers_25
  refine pk_nn ?_
  extract_lets +onlyGivenNames s_1
  have h_2 : KB M z s_1 := h
  clear_value s_1
  exact pk_some h_2
theorem W_X12_laysOthers_B2 {M : Nat} {z : mG} {x1 : Int32} {x2 : Int32} {s : mG} (hM : sub 237684487542793012780631851008 M) (h : KB M z s) : pk (F_X12_laysOthers_B2 x1 x2 s) (se (fun τ => KB M z τ.2.2) (fun τ => KB M z τ)) := by
  unfold F_X12_laysOthers_B2
  refine pk_ite ?_ ?_
  · refine pk_b1r ?_
    exact (W_X12_laysOthers_L34 (sub_tr (by decide +kernel) hM) h)
  · refine pk_ite ?_ ?_
    · exact (W_X12_laysOthers_25 (sub_tr (by decide +kernel) hM) h)
    · exact (W_X12_laysOthers_25 (sub_tr (by decide +kernel) hM) h)
theorem W_X12_laysOthers_L2 {M : Nat} {z : mG} {x1 : Int32} {x2 : Int32} {s : mG} (hM : sub 237684487542793012780631851008 M) (h : KB M z s) : pk (F_X12_laysOthers_L2 x1 x2 s) (fun τ => KB M z τ) := by
  unfold F_X12_laysOthers_L2
  refine pk_whl (fun v => KB M z v.2.2) h (fun v hv => ?_)
  obtain ⟨y0, y1, y2⟩ := v
  exact W_X12_laysOthers_B2 (sub_tr (by decide +kernel) hM) hv
theorem W_X12_laysOthers {M : Nat} {z : mG} {a1 : Int32} {s : mG} (hM : sub 237684487542793012780631851008 M) (h : KB M z s) : pk (F_X12_laysOthers a1 s) (fun τ => KB M z τ) := by
  unfold F_X12_laysOthers
  exact (W_X12_laysOthers_L2 (sub_tr (by decide +kernel) hM) h)
theorem W_X12_counted_18 {M : Nat} {z : mG} {s : mG} (hM : sub 0 M) (h : KB M z s) : pk (F_X12_counted_18 s) (fun τ => KB M z τ.2) := by
  unfold F_X12_counted_18
  exact pk_some h
theorem W_X12_counted {M : Nat} {z : mG} {a1 : Int32} {a2 : Int32} {s : mG} (hM : sub 237684487542793012780631851008 M) (h : KB M z s) : pk (F_X12_counted a1 a2 s) (fun τ => KB M z τ.2) := by
  unfold F_X12_counted
  refine pk_b1 pk_top (fun _ _ => ?_)
  refine pk_ite ?_ ?_
  · exact (W_X12_counted_18 (sub_tr (by decide +kernel) hM) h)
  · refine pk_b1 pk_top (fun _ _ => ?_)
    refine pk_ite ?_ ?_
    · exact (W_X12_counted_18 (sub_tr (by decide +kernel) hM) h)
    · refine pk_b1 (W_X12_laysOthers (sub_tr (by decide +kernel) hM) h) (fun s_1 (h_2 : KB M z s_1) => ?_)
      refine pk_b2 (W_X12_sureOf (sub_tr (by decide +kernel) hM) h_2) (fun _ s_3 (h_4 : KB M z s_3) => ?_)
      refine pk_nn ?_
      extract_lets +onlyGivenNames v_5
      clear_value v_5
      refine pk_nn ?_
      extract_lets +onlyGivenNames v_6
      clear_value v_6
      refine pk_ite ?_ ?_
      · exact pk_some h_4
      · refine pk_nn ?_
        extract_lets +onlyGivenNames v_7
        clear_value v_7
        exact pk_some h_4
theorem W_X12_visit_17 {M : Nat} {z : mG} {s : mG} (hM : sub 0 M) (h : KB M z s) : pk (F_X12_visit_17 s) (fun τ => KB M z τ.2) := by
  unfold F_X12_visit_17
  exact pk_some h
theorem W_X12_visit_154 {M : Nat} {z : mG} {x1 : Int32} {x2 : Int32} {x3 : Int64} {x5 : Int32} {x6 : Int64} {x8 : Int32} {s : mG} (hM : sub 0 M) (h : KB M z s) : pk (F_X12_visit_154 x1 x2 x3 x5 x6 x8 s) (se (fun τ => KB M z τ.2.2.2.2.2.2) (fun τ => KB M z τ.2)) := by
  unfold F_X12_visit_154
  exact pk_some h
theorem W_X12_visit_B34 {M : Nat} {z : mG} {x1 : Int32} {x2 : Int32} {x3 : Int64} {x5 : Int32} {x6 : Int64} {x8 : Int32} {s : mG} (hM : sub 237684487542793012780631851008 M) (h : KB M z s) : pk (F_X12_visit_B34 x1 x2 x3 x5 x6 x8 s) (se (fun τ => KB M z τ.2.2.2.2.2.2) (fun τ => KB M z τ.2)) := by
  unfold F_X12_visit_B34
  refine pk_ite ?_ ?_
  · refine pk_ite ?_ ?_
    · exact pk_some h
    · exact pk_some h
  · refine pk_nn ?_
    refine pk_b2 (W_X12_saysIn (sub_tr (by decide +kernel) hM) h) (fun _ s_1 (h_2 : KB M z s_1) => ?_)
    refine pk_nn ?_
    refine pk_b2 (W_X12_saysIn (sub_tr (by decide +kernel) hM) h_2) (fun _ s_3 (h_4 : KB M z s_3) => ?_)
    extract_lets +onlyGivenNames v_5
    clear_value v_5
    refine pk_ite ?_ ?_
    · exact (W_X12_visit_154 (sub_tr (by decide +kernel) hM) h_4)
    · exact (W_X12_visit_154 (sub_tr (by decide +kernel) hM) h_4)
theorem W_X12_visit_L34 {M : Nat} {z : mG} {x1 : Int32} {x2 : Int32} {x3 : Int64} {x5 : Int32} {x6 : Int64} {x8 : Int32} {s : mG} (hM : sub 237684487542793012780631851008 M) (h : KB M z s) : pk (F_X12_visit_L34 x1 x2 x3 x5 x6 x8 s) (fun τ => KB M z τ.2) := by
  unfold F_X12_visit_L34
  refine pk_whl (fun v => KB M z v.2.2.2.2.2.2) h (fun v hv => ?_)
  obtain ⟨y0, y1, y2, y3, y4, y5, y6⟩ := v
  exact W_X12_visit_B34 (sub_tr (by decide +kernel) hM) hv
theorem W_X12_visit {M : Nat} {z : mG} {a1 : Int32} {a2 : Int32} {s : mG} (hM : sub 237684487542793012780631851008 M) (h : KB M z s) : pk (F_X12_visit a1 a2 s) (fun τ => KB M z τ.2) := by
  unfold F_X12_visit
  refine pk_b1 pk_top (fun _ _ => ?_)
  refine pk_ite ?_ ?_
  · exact (W_X12_visit_17 (sub_tr (by decide +kernel) hM) h)
  · refine pk_b1 pk_top (fun _ _ => ?_)
    refine pk_ite ?_ ?_
    · exact (W_X12_visit_17 (sub_tr (by decide +kernel) hM) h)
    · refine pk_b2 (W_X12_sureOf (sub_tr (by decide +kernel) hM) h) (fun _ s_1 (h_2 : KB M z s_1) => ?_)
      exact (W_X12_visit_L34 (sub_tr (by decide +kernel) hM) h_2)
theorem W_X12_movesIn_36 {M : Nat} {z : mG} {x1 : Int32} {x3 : Int32} {y0 : Int32} {y2 : Int32} {s : mG} (hM : sub 237684487542793012780631851008 M) (h : KB M z s) : pk (F_X12_movesIn_36 x1 x3 y0 y2 s) (se (fun τ => KB M z τ.2.2.2) (fun τ => KB M z τ.2)) := by
  unfold F_X12_movesIn_36
  refine pk_nn ?_
  refine pk_b2 (W_X12_saysIn (sub_tr (by decide +kernel) hM) h) (fun _ s_1 (h_2 : KB M z s_1) => ?_)
  exact pk_some h_2
theorem W_X12_movesIn_B4 {M : Nat} {z : mG} {x1 : Int32} {x2 : Int32} {x3 : Int32} {s : mG} (hM : sub 237684487542793012780631851008 M) (h : KB M z s) : pk (F_X12_movesIn_B4 x1 x2 x3 s) (se (fun τ => KB M z τ.2.2.2) (fun τ => KB M z τ.2)) := by
  unfold F_X12_movesIn_B4
  refine pk_ite ?_ ?_
  · exact pk_some h
  · refine pk_nn ?_
    refine pk_ite ?_ ?_
    · exact (W_X12_movesIn_36 (sub_tr (by decide +kernel) hM) h)
    · exact (W_X12_movesIn_36 (sub_tr (by decide +kernel) hM) h)
theorem W_X12_movesIn_L4 {M : Nat} {z : mG} {x1 : Int32} {x2 : Int32} {x3 : Int32} {s : mG} (hM : sub 237684487542793012780631851008 M) (h : KB M z s) : pk (F_X12_movesIn_L4 x1 x2 x3 s) (fun τ => KB M z τ.2) := by
  unfold F_X12_movesIn_L4
  refine pk_whl (fun v => KB M z v.2.2.2) h (fun v hv => ?_)
  obtain ⟨y0, y1, y2, y3⟩ := v
  exact W_X12_movesIn_B4 (sub_tr (by decide +kernel) hM) hv
theorem W_X12_movesIn {M : Nat} {z : mG} {a1 : Int32} {s : mG} (hM : sub 237684487542793012780631851008 M) (h : KB M z s) : pk (F_X12_movesIn a1 s) (fun τ => KB M z τ.2) := by
  unfold F_X12_movesIn
  exact (W_X12_movesIn_L4 (sub_tr (by decide +kernel) hM) h)
theorem W_X12_expect {M : Nat} {z : mG} {s : mG} (hM : sub 237684487542793012780631851008 M) (h : KB M z s) : pk (F_X12_expect s) (fun τ => KB M z τ.2) := by
  unfold F_X12_expect
  refine pk_b2 (W_X12_movesIn (sub_tr (by decide +kernel) hM) h) (fun _ s_1 (h_2 : KB M z s_1) => ?_)
  exact pk_some h_2
theorem W_X12_busy_57 {M : Nat} {z : mG} {x1 : Int32} {x2 : Int32} {x3 : Int32} {x4 : Int32} {s : mG} (hM : sub 0 M) (h : KB M z s) : pk (F_X12_busy_57 x1 x2 x3 x4 s) (se (fun τ => KB M z τ.2.2.2.2) (fun τ => KB M z τ.2)) := by
  unfold F_X12_busy_57
  exact pk_some h
theorem W_X12_busy_B29 {M : Nat} {z : mG} {x1 : Int32} {x2 : Int32} {x3 : Int32} {x4 : Int32} {s : mG} (hM : sub 237684487542793012780631851008 M) (h : KB M z s) : pk (F_X12_busy_B29 x1 x2 x3 x4 s) (se (fun τ => KB M z τ.2.2.2.2) (fun τ => KB M z τ.2)) := by
  unfold F_X12_busy_B29
  refine pk_ite ?_ ?_
  · refine pk_ite ?_ ?_
    · exact pk_some h
    · refine pk_b2 (W_X12_movesIn (sub_tr (by decide +kernel) hM) h) (fun _ s_1 (h_2 : KB M z s_1) => ?_)
      exact pk_some h_2
  · refine pk_b2 (W_X12_movesIn (sub_tr (by decide +kernel) hM) h) (fun _ s_3 (h_4 : KB M z s_3) => ?_)
    refine pk_b2 (W_X12_movesIn (sub_tr (by decide +kernel) hM) h_4) (fun _ s_5 (h_6 : KB M z s_5) => ?_)
    refine pk_ite ?_ ?_
    · exact (W_X12_busy_57 (sub_tr (by decide +kernel) hM) h_6)
    · exact (W_X12_busy_57 (sub_tr (by decide +kernel) hM) h_6)
theorem W_X12_busy_L29 {M : Nat} {z : mG} {x1 : Int32} {x2 : Int32} {x3 : Int32} {x4 : Int32} {s : mG} (hM : sub 237684487542793012780631851008 M) (h : KB M z s) : pk (F_X12_busy_L29 x1 x2 x3 x4 s) (fun τ => KB M z τ.2) := by
  unfold F_X12_busy_L29
  refine pk_whl (fun v => KB M z v.2.2.2.2) h (fun v hv => ?_)
  obtain ⟨y0, y1, y2, y3, y4⟩ := v
  exact W_X12_busy_B29 (sub_tr (by decide +kernel) hM) hv
theorem W_X12_busy {M : Nat} {z : mG} {a1 : Int32} {s : mG} (hM : sub 237684487542793012780631851008 M) (h : KB M z s) : pk (F_X12_busy a1 s) (fun τ => KB M z τ.2) := by
  unfold F_X12_busy
  refine pk_b1 pk_top (fun _ _ => ?_)
  refine pk_ite ?_ ?_
  · exact pk_some h
  · extract_lets +onlyGivenNames v_1
    clear_value v_1
    exact (W_X12_busy_L29 (sub_tr (by decide +kernel) hM) h)
theorem W_X12_lack_80 {M : Nat} {z : mG} {x1 : Int32} {x2 : Int32} {x3 : Int32} {x4 : Int64} {x6 : Int32} {s : mG} (hM : sub 0 M) (h : KB M z s) : pk (F_X12_lack_80 x1 x2 x3 x4 x6 s) (se (fun τ => KB M z τ.2.2.2.2.2) (fun τ => KB M z τ.2)) := by
  unfold F_X12_lack_80
  exact pk_some h
theorem W_X12_lack_B21 {M : Nat} {z : mG} {x1 : Int32} {x2 : Int32} {x3 : Int32} {x4 : Int64} {x6 : Int32} {s : mG} (hM : sub 237684487542793012780631851008 M) (h : KB M z s) : pk (F_X12_lack_B21 x1 x2 x3 x4 x6 s) (se (fun τ => KB M z τ.2.2.2.2.2) (fun τ => KB M z τ.2)) := by
  unfold F_X12_lack_B21
  refine pk_ite ?_ ?_
  · refine pk_ite ?_ ?_
    · exact pk_some h
    · refine pk_ite ?_ ?_
      · extract_lets +onlyGivenNames v_1
        clear_value v_1
        exact pk_some h
      · exact pk_some h
  · refine pk_nn ?_
    refine pk_ite ?_ ?_
    · refine pk_nn ?_
      extract_lets +onlyGivenNames v_2
      clear_value v_2
      refine pk_b2 (W_X12_sureOf (sub_tr (by decide +kernel) hM) h) (fun _ s_3 (h_4 : KB M z s_3) => ?_)
      extract_lets +onlyGivenNames v_5
      clear_value v_5
      exact (W_X12_lack_80 (sub_tr (by decide +kernel) hM) h_4)
    · exact (W_X12_lack_80 (sub_tr (by decide +kernel) hM) h)
theorem W_X12_lack_L21 {M : Nat} {z : mG} {x1 : Int32} {x2 : Int32} {x3 : Int32} {x4 : Int64} {x6 : Int32} {s : mG} (hM : sub 237684487542793012780631851008 M) (h : KB M z s) : pk (F_X12_lack_L21 x1 x2 x3 x4 x6 s) (fun τ => KB M z τ.2) := by
  unfold F_X12_lack_L21
  refine pk_whl (fun v => KB M z v.2.2.2.2.2) h (fun v hv => ?_)
  obtain ⟨y0, y1, y2, y3, y4, y5⟩ := v
  exact W_X12_lack_B21 (sub_tr (by decide +kernel) hM) hv
theorem W_X12_lack {M : Nat} {z : mG} {a1 : Int32} {s : mG} (hM : sub 237684487542793012780631851008 M) (h : KB M z s) : pk (F_X12_lack a1 s) (fun τ => KB M z τ.2) := by
  unfold F_X12_lack
  refine pk_b1 pk_top (fun _ _ => ?_)
  refine pk_ite ?_ ?_
  · exact pk_some h
  · exact (W_X12_lack_L21 (sub_tr (by decide +kernel) hM) h)
theorem W_X12_empty_64 {M : Nat} {z : mG} {x1 : Int32} {x4 : Int32} {y0 : Int64} {s : mG} (hM : sub 0 M) (h : KB M z s) : pk (F_X12_empty_64 x1 x4 y0 s) (se (fun τ => KB M z τ.2.2.2) (fun τ => KB M z τ.2)) := by
  unfold F_X12_empty_64
  exact pk_some h
theorem W_X12_empty_B18 {M : Nat} {z : mG} {x1 : Int32} {x2 : Int64} {x4 : Int32} {s : mG} (hM : sub 237684487542793012780631851008 M) (h : KB M z s) : pk (F_X12_empty_B18 x1 x2 x4 s) (se (fun τ => KB M z τ.2.2.2) (fun τ => KB M z τ.2)) := by
  unfold F_X12_empty_B18
  refine pk_ite ?_ ?_
  · exact pk_some h
  · refine pk_nn ?_
    refine pk_ite ?_ ?_
    · refine pk_b2 (W_X12_sureOf (sub_tr (by decide +kernel) hM) h) (fun _ s_1 (h_2 : KB M z s_1) => ?_)
      exact (W_X12_empty_64 (sub_tr (by decide +kernel) hM) h_2)
    · exact (W_X12_empty_64 (sub_tr (by decide +kernel) hM) h)
theorem W_X12_empty_L18 {M : Nat} {z : mG} {x1 : Int32} {x2 : Int64} {x4 : Int32} {s : mG} (hM : sub 237684487542793012780631851008 M) (h : KB M z s) : pk (F_X12_empty_L18 x1 x2 x4 s) (fun τ => KB M z τ.2) := by
  unfold F_X12_empty_L18
  refine pk_whl (fun v => KB M z v.2.2.2) h (fun v hv => ?_)
  obtain ⟨y0, y1, y2, y3⟩ := v
  exact W_X12_empty_B18 (sub_tr (by decide +kernel) hM) hv
theorem W_X12_empty {M : Nat} {z : mG} {a1 : Int32} {s : mG} (hM : sub 237684487542793012780631851008 M) (h : KB M z s) : pk (F_X12_empty a1 s) (fun τ => KB M z τ.2) := by
  unfold F_X12_empty
  refine pk_b1 pk_top (fun _ _ => ?_)
  refine pk_ite ?_ ?_
  · exact pk_some h
  · exact (W_X12_empty_L18 (sub_tr (by decide +kernel) hM) h)
theorem W_X12_isKnockedAhead_42 {M : Nat} {z : mG} {s : mG} (hM : sub 0 M) (h : KB M z s) : pk (F_X12_isKnockedAhead_42 s) (fun τ => KB M z τ.2) := by
  unfold F_X12_isKnockedAhead_42
  exact pk_some h
theorem W_X12_isKnockedAhead_46 {M : Nat} {z : mG} {s : mG} (hM : sub 0 M) (h : KB M z s) : pk (F_X12_isKnockedAhead_46 s) (fun τ => KB M z τ.2) := by
  unfold F_X12_isKnockedAhead_46
  exact pk_some h
theorem W_X12_isKnockedAhead {M : Nat} {z : mG} {a1 : Int32} {a2 : Int32} {s : mG} (hM : sub 237684487542793012780631851008 M) (h : KB M z s) : pk (F_X12_isKnockedAhead a1 a2 s) (fun τ => KB M z τ.2) := by
  unfold F_X12_isKnockedAhead
  refine pk_b1 pk_top (fun _ _ => ?_)
  refine pk_b2 (W_X12_sureOf (sub_tr (by decide +kernel) hM) h) (fun _ s_1 (h_2 : KB M z s_1) => ?_)
  refine pk_b1 pk_top (fun _ _ => ?_)
  refine pk_b2 (W_X12_sureOf (sub_tr (by decide +kernel) hM) h_2) (fun _ s_3 (h_4 : KB M z s_3) => ?_)
  refine pk_ite ?_ ?_
  · exact (W_X12_isKnockedAhead_42 (sub_tr (by decide +kernel) hM) h_4)
  · refine pk_ite ?_ ?_
    · refine pk_ite ?_ ?_
      · exact (W_X12_isKnockedAhead_46 (sub_tr (by decide +kernel) hM) h_4)
      · exact (W_X12_isKnockedAhead_42 (sub_tr (by decide +kernel) hM) h_4)
    · exact (W_X12_isKnockedAhead_46 (sub_tr (by decide +kernel) hM) h_4)
theorem W_X12_knocks_52 {M : Nat} {z : mG} {x1 : Int32} {x2 : Int32} {x4 : Int32} {y0 : Int32} {y1 : Int32} {s : mG} (hM : sub 0 M) (h : KB M z s) : pk (F_X12_knocks_52 x1 x2 x4 y0 y1 s) (se (fun τ => KB M z τ.2.2.2.2) (se (fun τ => KB M z τ.2.2) (fun τ => KB M z τ.2))) := by
  unfold F_X12_knocks_52
  exact pk_some h
theorem W_X12_knocks_51 {M : Nat} {z : mG} {x1 : Int32} {x2 : Int32} {x4 : Int32} {y0 : Int32} {s : mG} (hM : sub 0 M) (h : KB M z s) : pk (F_X12_knocks_51 x1 x2 x4 y0 s) (se (fun τ => KB M z τ.2.2.2.2) (se (fun τ => KB M z τ.2.2) (fun τ => KB M z τ.2))) := by
  unfold F_X12_knocks_51
  exact (W_X12_knocks_52 (sub_tr (by decide +kernel) hM) h)
theorem W_X12_knocks_B18 {M : Nat} {z : mG} {x1 : Int32} {x2 : Int32} {x3 : Int32} {x4 : Int32} {s : mG} (hM : sub 237684487542793012780631851008 M) (h : KB M z s) : pk (F_X12_knocks_B18 x1 x2 x3 x4 s) (se (fun τ => KB M z τ.2.2.2.2) (se (fun τ => KB M z τ.2.2) (fun τ => KB M z τ.2))) := by
  unfold F_X12_knocks_B18
  refine pk_ite ?_ ?_
  · refine pk_ite ?_ ?_
    · exact pk_some h
    · exact pk_some h
  · refine pk_ite ?_ ?_
    · exact (W_X12_knocks_51 (sub_tr (by decide +kernel) hM) h)
    · refine pk_b2 (W_X12_isKnockedAhead (sub_tr (by decide +kernel) hM) h) (fun _ s_1 (h_2 : KB M z s_1) => ?_)
      refine pk_ite ?_ ?_
      · exact (W_X12_knocks_51 (sub_tr (by decide +kernel) hM) h_2)
      · exact (W_X12_knocks_52 (sub_tr (by decide +kernel) hM) h_2)
theorem W_X12_knocks_L18 {M : Nat} {z : mG} {x1 : Int32} {x2 : Int32} {x3 : Int32} {x4 : Int32} {s : mG} (hM : sub 237684487542793012780631851008 M) (h : KB M z s) : pk (F_X12_knocks_L18 x1 x2 x3 x4 s) (se (fun τ => KB M z τ.2.2) (fun τ => KB M z τ.2)) := by
  unfold F_X12_knocks_L18
  refine pk_whl (fun v => KB M z v.2.2.2.2) h (fun v hv => ?_)
  obtain ⟨y0, y1, y2, y3, y4⟩ := v
  exact W_X12_knocks_B18 (sub_tr (by decide +kernel) hM) hv
theorem W_X12_knocks_B2 {M : Nat} {z : mG} {x1 : Int32} {x2 : Int32} {s : mG} (hM : sub 237684487542793012780631851008 M) (h : KB M z s) : pk (F_X12_knocks_B2 x1 x2 s) (se (fun τ => KB M z τ.2.2) (fun τ => KB M z τ.2)) := by
  unfold F_X12_knocks_B2
  refine pk_ite ?_ ?_
  · exact pk_some h
  · exact (W_X12_knocks_L18 (sub_tr (by decide +kernel) hM) h)
theorem W_X12_knocks_L2 {M : Nat} {z : mG} {x1 : Int32} {x2 : Int32} {s : mG} (hM : sub 237684487542793012780631851008 M) (h : KB M z s) : pk (F_X12_knocks_L2 x1 x2 s) (fun τ => KB M z τ.2) := by
  unfold F_X12_knocks_L2
  refine pk_whl (fun v => KB M z v.2.2) h (fun v hv => ?_)
  obtain ⟨y0, y1, y2⟩ := v
  exact W_X12_knocks_B2 (sub_tr (by decide +kernel) hM) hv
theorem W_X12_knocks {M : Nat} {z : mG} {a1 : Int32} {s : mG} (hM : sub 237684487542793012780631851008 M) (h : KB M z s) : pk (F_X12_knocks a1 s) (fun τ => KB M z τ.2) := by
  unfold F_X12_knocks
  exact (W_X12_knocks_L2 (sub_tr (by decide +kernel) hM) h)
theorem W_X12_room_67 {M : Nat} {z : mG} {s : mG} (hM : sub 0 M) (h : KB M z s) : pk (F_X12_room_67 s) (fun τ => KB M z τ.2) := by
  unfold F_X12_room_67
  exact pk_some h
theorem W_X12_room {M : Nat} {z : mG} {a1 : Int32} {a2 : Int32} {a3 : Int32} {a4 : Int32} {s : mG} (hM : sub 618970019642690137449562112 M) (h : KB M z s) : pk (F_X12_room a1 a2 a3 a4 s) (fun τ => KB M z τ.2) := by
  unfold F_X12_room
  refine pk_ite ?_ ?_
  · extract_lets +onlyGivenNames s_1
    have h_2 : KB M z s_1 := KB_mu h (hM 89 (by decide +kernel))
    clear_value s_1
    exact pk_some h_2
  · refine pk_b1 pk_top (fun _ _ => ?_)
    refine pk_ite ?_ ?_
    · exact (W_X12_room_67 (sub_tr (by decide +kernel) hM) h)
    · refine pk_b1 pk_top (fun _ _ => ?_)
      refine pk_ite ?_ ?_
      · exact (W_X12_room_67 (sub_tr (by decide +kernel) hM) h)
      · refine pk_b1 pk_top (fun _ _ => ?_)
        refine pk_ite ?_ ?_
        · exact (W_X12_room_67 (sub_tr (by decide +kernel) hM) h)
        · refine pk_b1 pk_top (fun _ _ => ?_)
          refine pk_ite ?_ ?_
          · exact (W_X12_room_67 (sub_tr (by decide +kernel) hM) h)
          · refine pk_ite ?_ ?_
            · exact (W_X12_room_67 (sub_tr (by decide +kernel) hM) h)
            · extract_lets +onlyGivenNames v_3
              clear_value v_3
              refine pk_nn ?_
              extract_lets +onlyGivenNames s_4
              have h_5 : KB M z s_4 := KB_mu h (hM 89 (by decide +kernel))
              clear_value s_4
              refine pk_nn ?_
              extract_lets +onlyGivenNames s_6
              have h_7 : KB M z s_6 := KB_mu h_5 (hM 89 (by decide +kernel))
              clear_value s_6
              refine pk_nn ?_
              extract_lets +onlyGivenNames s_8
              have h_9 : KB M z s_8 := KB_mu h_7 (hM 89 (by decide +kernel))
              clear_value s_8
              refine pk_nn ?_
              extract_lets +onlyGivenNames s_10
              have h_11 : KB M z s_10 := KB_mu h_9 (hM 89 (by decide +kernel))
              clear_value s_10
              extract_lets +onlyGivenNames s_12
              have h_13 : KB M z s_12 := KB_mu h_11 (hM 89 (by decide +kernel))
              clear_value s_12
              exact pk_some h_13
theorem W_X12_laysFloors_B22 {M : Nat} {z : mG} {x1 : Int32} {s : mG} (hM : sub 237684487542793012780631851008 M) (h : KB M z s) : pk (F_X12_laysFloors_B22 x1 s) (se (fun τ => KB M z τ.2) (fun τ => KB M z τ)) := by
  unfold F_X12_laysFloors_B22
  refine pk_ite ?_ ?_
  · exact pk_some h
  · refine pk_nn ?_
    extract_lets +onlyGivenNames v_1
    clear_value v_1
    refine pk_nn ?_
    refine pk_b2 (W_X12_sureOf (sub_tr (by decide +kernel) hM) h) (fun _ s_2 (h_3 : KB M z s_2) => ?_)
    refine pk_nn ?_
    extract_lets +onlyGivenNames s_4
    have h_5 : KB M z s_4 := h_3
    clear_value s_4
    exact pk_some h_5
theorem W_X12_laysFloors_L22 {M : Nat} {z : mG} {x1 : Int32} {s : mG} (hM : sub 237684487542793012780631851008 M) (h : KB M z s) : pk (F_X12_laysFloors_L22 x1 s) (fun τ => KB M z τ) := by
  unfold F_X12_laysFloors_L22
  refine pk_whl (fun v => KB M z v.2) h (fun v hv => ?_)
  obtain ⟨y0, y1⟩ := v
  exact W_X12_laysFloors_B22 (sub_tr (by decide +kernel) hM) hv
theorem W_X12_laysFloors_B2 {M : Nat} {z : mG} {x1 : Int32} {s : mG} (hM : sub 237684487542793012780631851008 M) (h : KB M z s) : pk (F_X12_laysFloors_B2 x1 s) (se (fun τ => KB M z τ.2) (fun τ => KB M z τ)) := by
  unfold F_X12_laysFloors_B2
  refine pk_ite ?_ ?_
  · refine pk_b1r ?_
    exact (W_X12_laysFloors_L22 (sub_tr (by decide +kernel) hM) h)
  · refine pk_nn ?_
    extract_lets +onlyGivenNames s_1
    have h_2 : KB M z s_1 := h
    clear_value s_1
    exact pk_some h_2
theorem W_X12_laysFloors_L2 {M : Nat} {z : mG} {x1 : Int32} {s : mG} (hM : sub 237684487542793012780631851008 M) (h : KB M z s) : pk (F_X12_laysFloors_L2 x1 s) (fun τ => KB M z τ) := by
  unfold F_X12_laysFloors_L2
  refine pk_whl (fun v => KB M z v.2) h (fun v hv => ?_)
  obtain ⟨y0, y1⟩ := v
  exact W_X12_laysFloors_B2 (sub_tr (by decide +kernel) hM) hv
theorem W_X12_laysFloors {M : Nat} {z : mG} {s : mG} (hM : sub 237684487542793012780631851008 M) (h : KB M z s) : pk (F_X12_laysFloors s) (fun τ => KB M z τ) := by
  unfold F_X12_laysFloors
  exact (W_X12_laysFloors_L2 (sub_tr (by decide +kernel) hM) h)
theorem W_X12_searches_169 {M : Nat} {z : mG} {rec : Int32 → Int32 → Int32 → Int64 → mG → Option (mG)} {x1 : Int32} {x2 : Int32} {x3 : Int32} {x4 : Int64} {x6 : Int32} {s : mG} (hM : sub 0 M) (hrec : ∀ (b0 : Int32) (b1 : Int32) (b2 : Int32) (b3 : Int64) (r : mG), KB M z r → pk (rec b0 b1 b2 b3 r) (fun τ => KB M z τ)) (h : KB M z s) : pk (F_X12_searches_169 rec x1 x2 x3 x4 x6 s) (se (fun τ => KB M z τ.2.2.2.2.2) (fun τ => KB M z τ)) := by
  unfold F_X12_searches_169
  exact pk_some h
theorem W_X12_searches_120 {M : Nat} {z : mG} {rec : Int32 → Int32 → Int32 → Int64 → mG → Option (mG)} {x1 : Int32} {x2 : Int32} {x3 : Int32} {x4 : Int64} {x6 : Int32} {x7 : Int32} {y0 : Int32} {y1 : Int32} {y2 : Int32} {s : mG} (hM : sub 2535301200456458802993406410752 M) (hrec : ∀ (b0 : Int32) (b1 : Int32) (b2 : Int32) (b3 : Int64) (r : mG), KB M z r → pk (rec b0 b1 b2 b3 r) (fun τ => KB M z τ)) (h : KB M z s) : pk (F_X12_searches_120 rec x1 x2 x3 x4 x6 x7 y0 y1 y2 s) (se (fun τ => KB M z τ.2.2.2.2.2) (fun τ => KB M z τ)) := by
  unfold F_X12_searches_120
  refine pk_ite ?_ ?_
  · refine pk_ite ?_ ?_
    · refine pk_nn ?_
      extract_lets +onlyGivenNames s_1
      have h_2 : KB M z s_1 := KB_mu h (hM 101 (by decide +kernel))
      clear_value s_1
      refine pk_nn ?_
      refine pk_b1 (hrec _ _ _ _ _ h_2) (fun s_3 (h_4 : KB M z s_3) => ?_)
      exact (W_X12_searches_169 (sub_tr (by decide +kernel) hM) hrec h_4)
    · exact (W_X12_searches_169 (sub_tr (by decide +kernel) hM) hrec h)
  · exact (W_X12_searches_169 (sub_tr (by decide +kernel) hM) hrec h)
theorem W_X12_searches_93 {M : Nat} {z : mG} {rec : Int32 → Int32 → Int32 → Int64 → mG → Option (mG)} {x1 : Int32} {x2 : Int32} {x3 : Int32} {x4 : Int64} {x6 : Int32} {x8 : Int32} {y0 : Int32} {s : mG} (hM : sub 0 M) (hrec : ∀ (b0 : Int32) (b1 : Int32) (b2 : Int32) (b3 : Int64) (r : mG), KB M z r → pk (rec b0 b1 b2 b3 r) (fun τ => KB M z τ)) (h : KB M z s) : pk (F_X12_searches_93 rec x1 x2 x3 x4 x6 x8 y0 s) (se (fun τ => KB M z τ.2.2.2.2.2.2.2) (se (fun τ => KB M z τ.2.2.2.2.2) (fun τ => KB M z τ))) := by
  unfold F_X12_searches_93
  exact pk_some h
theorem W_X12_searches_88 {M : Nat} {z : mG} {rec : Int32 → Int32 → Int32 → Int64 → mG → Option (mG)} {x1 : Int32} {x2 : Int32} {x3 : Int32} {x4 : Int64} {x6 : Int32} {x8 : Int32} {s : mG} (hM : sub 0 M) (hrec : ∀ (b0 : Int32) (b1 : Int32) (b2 : Int32) (b3 : Int64) (r : mG), KB M z r → pk (rec b0 b1 b2 b3 r) (fun τ => KB M z τ)) (h : KB M z s) : pk (F_X12_searches_88 rec x1 x2 x3 x4 x6 x8 s) (se (fun τ => KB M z τ.2.2.2.2.2.2.2) (se (fun τ => KB M z τ.2.2.2.2.2) (fun τ => KB M z τ))) := by
  unfold F_X12_searches_88
  exact (W_X12_searches_93 (sub_tr (by decide +kernel) hM) hrec h)
theorem W_X12_searches_B65 {M : Nat} {z : mG} {rec : Int32 → Int32 → Int32 → Int64 → mG → Option (mG)} {x1 : Int32} {x2 : Int32} {x3 : Int32} {x4 : Int64} {x6 : Int32} {x7 : Int32} {x8 : Int32} {s : mG} (hM : sub 2535301200456458802993406410752 M) (hrec : ∀ (b0 : Int32) (b1 : Int32) (b2 : Int32) (b3 : Int64) (r : mG), KB M z r → pk (rec b0 b1 b2 b3 r) (fun τ => KB M z τ)) (h : KB M z s) : pk (F_X12_searches_B65 rec x1 x2 x3 x4 x6 x7 x8 s) (se (fun τ => KB M z τ.2.2.2.2.2.2.2) (se (fun τ => KB M z τ.2.2.2.2.2) (fun τ => KB M z τ))) := by
  unfold F_X12_searches_B65
  refine pk_ite ?_ ?_
  · refine pk_ite ?_ ?_
    · refine pk_b1r ?_
      exact (W_X12_searches_120 (sub_tr (by decide +kernel) hM) hrec h)
    · refine pk_b1r ?_
      exact (W_X12_searches_120 (sub_tr (by decide +kernel) hM) hrec h)
  · refine pk_ite ?_ ?_
    · refine pk_nn ?_
      refine pk_ite ?_ ?_
      · exact (W_X12_searches_88 (sub_tr (by decide +kernel) hM) hrec h)
      · exact (W_X12_searches_93 (sub_tr (by decide +kernel) hM) hrec h)
    · exact (W_X12_searches_88 (sub_tr (by decide +kernel) hM) hrec h)
theorem W_X12_searches_L65 {M : Nat} {z : mG} {rec : Int32 → Int32 → Int32 → Int64 → mG → Option (mG)} {x1 : Int32} {x2 : Int32} {x3 : Int32} {x4 : Int64} {x6 : Int32} {x7 : Int32} {x8 : Int32} {s : mG} (hM : sub 2535301200456458802993406410752 M) (hrec : ∀ (b0 : Int32) (b1 : Int32) (b2 : Int32) (b3 : Int64) (r : mG), KB M z r → pk (rec b0 b1 b2 b3 r) (fun τ => KB M z τ)) (h : KB M z s) : pk (F_X12_searches_L65 rec x1 x2 x3 x4 x6 x7 x8 s) (se (fun τ => KB M z τ.2.2.2.2.2) (fun τ => KB M z τ)) := by
  unfold F_X12_searches_L65
  refine pk_whl (fun v => KB M z v.2.2.2.2.2.2.2) h (fun v hv => ?_)
  obtain ⟨y0, y1, y2, y3, y4, y5, y6, y7⟩ := v
  exact W_X12_searches_B65 (sub_tr (by decide +kernel) hM) hrec hv
theorem W_X12_searches_B53 {M : Nat} {z : mG} {rec : Int32 → Int32 → Int32 → Int64 → mG → Option (mG)} {x1 : Int32} {x2 : Int32} {x3 : Int32} {x4 : Int64} {x6 : Int32} {s : mG} (hM : sub 2535301200456458802993406410752 M) (hrec : ∀ (b0 : Int32) (b1 : Int32) (b2 : Int32) (b3 : Int64) (r : mG), KB M z r → pk (rec b0 b1 b2 b3 r) (fun τ => KB M z τ)) (h : KB M z s) : pk (F_X12_searches_B53 rec x1 x2 x3 x4 x6 s) (se (fun τ => KB M z τ.2.2.2.2.2) (fun τ => KB M z τ)) := by
  unfold F_X12_searches_B53
  refine pk_ite ?_ ?_
  · exact pk_some h
  · exact (W_X12_searches_L65 (sub_tr (by decide +kernel) hM) hrec h)
theorem W_X12_searches_L53 {M : Nat} {z : mG} {rec : Int32 → Int32 → Int32 → Int64 → mG → Option (mG)} {x1 : Int32} {x2 : Int32} {x3 : Int32} {x4 : Int64} {x6 : Int32} {s : mG} (hM : sub 2535301200456458802993406410752 M) (hrec : ∀ (b0 : Int32) (b1 : Int32) (b2 : Int32) (b3 : Int64) (r : mG), KB M z r → pk (rec b0 b1 b2 b3 r) (fun τ => KB M z τ)) (h : KB M z s) : pk (F_X12_searches_L53 rec x1 x2 x3 x4 x6 s) (fun τ => KB M z τ) := by
  unfold F_X12_searches_L53
  refine pk_whl (fun v => KB M z v.2.2.2.2.2) h (fun v hv => ?_)
  obtain ⟨y0, y1, y2, y3, y4, y5⟩ := v
  exact W_X12_searches_B53 (sub_tr (by decide +kernel) hM) hrec hv
theorem W_X12_searches_50 {M : Nat} {z : mG} {rec : Int32 → Int32 → Int32 → Int64 → mG → Option (mG)} {x1 : Int32} {x2 : Int32} {x3 : Int32} {x4 : Int64} {s : mG} (hM : sub 2535301200456458802993406410752 M) (hrec : ∀ (b0 : Int32) (b1 : Int32) (b2 : Int32) (b3 : Int64) (r : mG), KB M z r → pk (rec b0 b1 b2 b3 r) (fun τ => KB M z τ)) (h : KB M z s) : pk (F_X12_searches_50 rec x1 x2 x3 x4 s) (fun τ => KB M z τ) := by
  unfold F_X12_searches_50
  exact (W_X12_searches_L53 (sub_tr (by decide +kernel) hM) hrec h)
theorem W_X12_searches_B24 {M : Nat} {z : mG} {rec : Int32 → Int32 → Int32 → Int64 → mG → Option (mG)} {x1 : Int32} {x2 : Int32} {x3 : Int32} {x4 : Int64} {x6 : Int32} {s : mG} (hM : sub 7605903601369376408980219232256 M) (hrec : ∀ (b0 : Int32) (b1 : Int32) (b2 : Int32) (b3 : Int64) (r : mG), KB M z r → pk (rec b0 b1 b2 b3 r) (fun τ => KB M z τ)) (h : KB M z s) : pk (F_X12_searches_B24 rec x1 x2 x3 x4 x6 s) (se (fun τ => KB M z τ.2.2.2.2.2) (fun τ => KB M z τ)) := by
  unfold F_X12_searches_B24
  refine pk_ite ?_ ?_
  · refine pk_b1r ?_
    exact (W_X12_searches_50 (sub_tr (by decide +kernel) hM) hrec h)
  · refine pk_nn ?_
    refine pk_nn ?_
    extract_lets +onlyGivenNames s_1
    have h_2 : KB M z s_1 := KB_mu h (hM 102 (by decide +kernel))
    clear_value s_1
    exact pk_some h_2
theorem W_X12_searches_L24 {M : Nat} {z : mG} {rec : Int32 → Int32 → Int32 → Int64 → mG → Option (mG)} {x1 : Int32} {x2 : Int32} {x3 : Int32} {x4 : Int64} {x6 : Int32} {s : mG} (hM : sub 7605903601369376408980219232256 M) (hrec : ∀ (b0 : Int32) (b1 : Int32) (b2 : Int32) (b3 : Int64) (r : mG), KB M z r → pk (rec b0 b1 b2 b3 r) (fun τ => KB M z τ)) (h : KB M z s) : pk (F_X12_searches_L24 rec x1 x2 x3 x4 x6 s) (fun τ => KB M z τ) := by
  unfold F_X12_searches_L24
  refine pk_whl (fun v => KB M z v.2.2.2.2.2) h (fun v hv => ?_)
  obtain ⟨y0, y1, y2, y3, y4, y5⟩ := v
  exact W_X12_searches_B24 (sub_tr (by decide +kernel) hM) hrec hv
theorem W_X12_searches {M : Nat} {z : mG} {rec : Int32 → Int32 → Int32 → Int64 → mG → Option (mG)} {a1 : Int32} {a2 : Int32} {a3 : Int32} {a4 : Int64} {s : mG} (hM : sub 7606213086379197754048944013312 M) (hrec : ∀ (b0 : Int32) (b1 : Int32) (b2 : Int32) (b3 : Int64) (r : mG), KB M z r → pk (rec b0 b1 b2 b3 r) (fun τ => KB M z τ)) (h : KB M z s) : pk (F_X12_searches rec a1 a2 a3 a4 s) (fun τ => KB M z τ) := by
  unfold F_X12_searches
  refine pk_ite ?_ ?_
  · exact (W_X12_searches_50 (sub_tr (by decide +kernel) hM) hrec h)
  · extract_lets +onlyGivenNames s_1
    have h_2 : KB M z s_1 := h
    clear_value s_1
    extract_lets +onlyGivenNames s_3
    have h_4 : KB M z s_3 := KB_mu h_2 (hM 88 (by decide +kernel))
    clear_value s_3
    exact (W_X12_searches_L24 (sub_tr (by decide +kernel) hM) hrec h_4)
theorem W_Q_X12_searches {M : Nat} {z : mG} (hM : sub 7606213086379197754048944013312 M) : ∀ (n : Nat) (a0 : Int32) (a1 : Int32) (a2 : Int32) (a3 : Int64) (s : mG), KB M z s → pk (Q_X12_searches n a0 a1 a2 a3 s) (fun τ => KB M z τ)
  | 0, _, _, _, _, _, _ => pk_none
  | n + 1, _, _, _, _, _, h => W_X12_searches (sub_tr (by decide +kernel) hM) (fun a0 a1 a2 a3 s h => W_Q_X12_searches hM n a0 a1 a2 a3 s h) h
theorem W_R_X12_searches {M : Nat} {z : mG} {a0 : Int32} {a1 : Int32} {a2 : Int32} {a3 : Int64} {s : mG} (hM : sub 7606213086379197754048944013312 M) (h : KB M z s) : pk (R_X12_searches a0 a1 a2 a3 s) (fun τ => KB M z τ) := W_Q_X12_searches hM 5 a0 a1 a2 a3 s h
theorem W_X12_fire_30 {M : Nat} {z : mG} {s : mG} (hM : sub 0 M) (h : KB M z s) : pk (F_X12_fire_30 s) (fun τ => KB M z τ.2) := by
  unfold F_X12_fire_30
  exact pk_some h
theorem W_X12_fire_32 {M : Nat} {z : mG} {x1 : Int32} {x2 : Int32} {s : mG} (hM : sub 7843897573921990766829575864320 M) (h : KB M z s) : pk (F_X12_fire_32 x1 x2 s) (fun τ => KB M z τ.2) := by
  unfold F_X12_fire_32
  refine pk_b1 (W_X12_laysFloors (sub_tr (by decide +kernel) hM) h) (fun s_1 (h_2 : KB M z s_1) => ?_)
  extract_lets +onlyGivenNames s_3
  have h_4 : KB M z s_3 := h_2
  clear_value s_3
  refine pk_b1 (W_X12_searches (sub_tr (by decide +kernel) hM) (fun _ _ _ _ _ h => W_R_X12_searches (sub_tr (by decide +kernel) hM) h) h_4) (fun s_5 (h_6 : KB M z s_5) => ?_)
  refine pk_ite ?_ ?_
  · extract_lets +onlyGivenNames v_7
    clear_value v_7
    exact pk_some h_6
  · refine pk_ite ?_ ?_
    · exact pk_some h_6
    · refine pk_ite ?_ ?_
      · exact pk_some h_6
      · refine pk_nn ?_
        extract_lets +onlyGivenNames v_8
        clear_value v_8
        exact pk_some h_6
theorem W_X12_fire {M : Nat} {z : mG} {a1 : Int32} {a2 : Int32} {s : mG} (hM : sub 7843897573921990766829575864320 M) (h : KB M z s) : pk (F_X12_fire a1 a2 s) (fun τ => KB M z τ.2) := by
  unfold F_X12_fire
  refine pk_b1 pk_top (fun _ _ => ?_)
  refine pk_ite ?_ ?_
  · exact (W_X12_fire_30 (sub_tr (by decide +kernel) hM) h)
  · refine pk_b1 pk_top (fun _ _ => ?_)
    refine pk_ite ?_ ?_
    · refine pk_b1 pk_top (fun _ _ => ?_)
      refine pk_ite ?_ ?_
      · exact (W_X12_fire_30 (sub_tr (by decide +kernel) hM) h)
      · exact (W_X12_fire_32 (sub_tr (by decide +kernel) hM) h)
    · exact (W_X12_fire_32 (sub_tr (by decide +kernel) hM) h)
theorem W_X12_laysDoors_161 {M : Nat} {z : mG} {x1 : Int32} {x2 : Int32} {x3 : Int32} {s : mG} (hM : sub 0 M) (h : KB M z s) : pk (F_X12_laysDoors_161 x1 x2 x3 s) (se (fun τ => KB M z τ.2.2.2) (se (fun τ => KB M z τ.2) (fun τ => KB M z τ))) := by
  unfold F_X12_laysDoors_161
  exact pk_some h
theorem W_X12_laysDoors_B45 {M : Nat} {z : mG} {x1 : Int32} {x2 : Int32} {x3 : Int32} {s : mG} (hM : sub 10378889289368628224754257494016 M) (h : KB M z s) : pk (F_X12_laysDoors_B45 x1 x2 x3 s) (se (fun τ => KB M z τ.2.2.2) (se (fun τ => KB M z τ.2) (fun τ => KB M z τ))) := by
  unfold F_X12_laysDoors_B45
  refine pk_ite ?_ ?_
  · exact pk_some h
  · refine pk_nn ?_
    refine pk_ite ?_ ?_
    · exact (W_X12_laysDoors_161 (sub_tr (by decide +kernel) hM) h)
    · refine pk_nn ?_
      refine pk_b2 (W_X12_saysIn (sub_tr (by decide +kernel) hM) h) (fun _ s_1 (h_2 : KB M z s_1) => ?_)
      refine pk_nn ?_
      refine pk_b2 (W_X12_saysIn (sub_tr (by decide +kernel) hM) h_2) (fun _ s_3 (h_4 : KB M z s_3) => ?_)
      extract_lets +onlyGivenNames v_5
      clear_value v_5
      refine pk_nn ?_
      refine pk_nn ?_
      extract_lets +onlyGivenNames s_6
      have h_7 : KB M z s_6 := KB_mu h_4 (hM 103 (by decide +kernel))
      clear_value s_6
      extract_lets +onlyGivenNames v_8
      clear_value v_8
      refine pk_nn ?_
      refine pk_nn ?_
      extract_lets +onlyGivenNames s_9
      have h_10 : KB M z s_9 := KB_mu h_7 (hM 103 (by decide +kernel))
      clear_value s_9
      exact (W_X12_laysDoors_161 (sub_tr (by decide +kernel) hM) h_10)
theorem W_X12_laysDoors_L45 {M : Nat} {z : mG} {x1 : Int32} {x2 : Int32} {x3 : Int32} {s : mG} (hM : sub 10378889289368628224754257494016 M) (h : KB M z s) : pk (F_X12_laysDoors_L45 x1 x2 x3 s) (se (fun τ => KB M z τ.2) (fun τ => KB M z τ)) := by
  unfold F_X12_laysDoors_L45
  refine pk_whl (fun v => KB M z v.2.2.2) h (fun v hv => ?_)
  obtain ⟨y0, y1, y2, y3⟩ := v
  exact W_X12_laysDoors_B45 (sub_tr (by decide +kernel) hM) hv
theorem W_X12_laysDoors_B2 {M : Nat} {z : mG} {x1 : Int32} {s : mG} (hM : sub 10378889289368628224754257494016 M) (h : KB M z s) : pk (F_X12_laysDoors_B2 x1 s) (se (fun τ => KB M z τ.2) (fun τ => KB M z τ)) := by
  unfold F_X12_laysDoors_B2
  refine pk_ite ?_ ?_
  · exact pk_some h
  · refine pk_nn ?_
    extract_lets +onlyGivenNames s_1
    have h_2 : KB M z s_1 := KB_mu h (hM 103 (by decide +kernel))
    clear_value s_1
    refine pk_nn ?_
    extract_lets +onlyGivenNames s_3
    have h_4 : KB M z s_3 := KB_mu h_2 (hM 103 (by decide +kernel))
    clear_value s_3
    extract_lets +onlyGivenNames v_5
    clear_value v_5
    exact (W_X12_laysDoors_L45 (sub_tr (by decide +kernel) hM) h_4)
theorem W_X12_laysDoors_L2 {M : Nat} {z : mG} {x1 : Int32} {s : mG} (hM : sub 10378889289368628224754257494016 M) (h : KB M z s) : pk (F_X12_laysDoors_L2 x1 s) (fun τ => KB M z τ) := by
  unfold F_X12_laysDoors_L2
  refine pk_whl (fun v => KB M z v.2) h (fun v hv => ?_)
  obtain ⟨y0, y1⟩ := v
  exact W_X12_laysDoors_B2 (sub_tr (by decide +kernel) hM) hv
theorem W_X12_laysDoors {M : Nat} {z : mG} {s : mG} (hM : sub 10378889289368628224754257494016 M) (h : KB M z s) : pk (F_X12_laysDoors s) (fun τ => KB M z τ) := by
  unfold F_X12_laysDoors
  exact (W_X12_laysDoors_L2 (sub_tr (by decide +kernel) hM) h)
end
end
/-! 59.v5.foot -/
section
noncomputable section
theorem W_X12_stands_26 {M : Nat} {z : mG} {s : mG} (hM : sub 0 M) (h : KB M z s) : pk (F_X12_stands_26 s) (fun τ => KB M z τ.2) := by
  unfold F_X12_stands_26
  exact pk_some h
theorem W_X12_stands_223 {M : Nat} {z : mG} {x1 : Int32} {x2 : Int32} {x3 : Int32} {x4 : Int32} {s : mG} (hM : sub 0 M) (h : KB M z s) : pk (F_X12_stands_223 x1 x2 x3 x4 s) (se (fun τ => KB M z τ.2.2.2.2) (fun τ => KB M z τ.2)) := by
  unfold F_X12_stands_223
  exact pk_some h
theorem W_X12_stands_219 {M : Nat} {z : mG} {x1 : Int32} {x2 : Int32} {x3 : Int32} {x4 : Int32} {s : mG} (hM : sub 0 M) (h : KB M z s) : pk (F_X12_stands_219 x1 x2 x3 x4 s) (se (fun τ => KB M z τ.2.2.2.2) (fun τ => KB M z τ.2)) := by
  unfold F_X12_stands_219
  exact (W_X12_stands_223 (sub_tr (by decide +kernel) hM) h)
theorem W_X12_stands_B161 {M : Nat} {z : mG} {x1 : Int32} {x2 : Int32} {x3 : Int32} {x4 : Int32} {s : mG} (hM : sub 0 M) (h : KB M z s) : pk (F_X12_stands_B161 x1 x2 x3 x4 s) (se (fun τ => KB M z τ.2.2.2.2) (fun τ => KB M z τ.2)) := by
  unfold F_X12_stands_B161
  refine pk_ite ?_ ?_
  · exact pk_some h
  · refine pk_nn ?_
    extract_lets +onlyGivenNames v_1
    clear_value v_1
    refine pk_nn ?_
    extract_lets +onlyGivenNames v_2
    clear_value v_2
    refine pk_ite ?_ ?_
    · exact (W_X12_stands_219 (sub_tr (by decide +kernel) hM) h)
    · refine pk_ite ?_ ?_
      · refine pk_ite ?_ ?_
        · exact (W_X12_stands_219 (sub_tr (by decide +kernel) hM) h)
        · exact (W_X12_stands_223 (sub_tr (by decide +kernel) hM) h)
      · exact (W_X12_stands_223 (sub_tr (by decide +kernel) hM) h)
theorem W_X12_stands_L161 {M : Nat} {z : mG} {x1 : Int32} {x2 : Int32} {x3 : Int32} {x4 : Int32} {s : mG} (hM : sub 0 M) (h : KB M z s) : pk (F_X12_stands_L161 x1 x2 x3 x4 s) (fun τ => KB M z τ.2) := by
  unfold F_X12_stands_L161
  refine pk_whl (fun v => KB M z v.2.2.2.2) h (fun v hv => ?_)
  obtain ⟨y0, y1, y2, y3, y4⟩ := v
  exact W_X12_stands_B161 (sub_tr (by decide +kernel) hM) hv
theorem W_X12_stands_157 {M : Nat} {z : mG} {x1 : Int32} {x2 : Int32} {y0 : Int32} {s : mG} (hM : sub 0 M) (h : KB M z s) : pk (F_X12_stands_157 x1 x2 y0 s) (fun τ => KB M z τ.2) := by
  unfold F_X12_stands_157
  exact (W_X12_stands_L161 (sub_tr (by decide +kernel) hM) h)
theorem W_X12_stands_103 {M : Nat} {z : mG} {x1 : Int32} {x2 : Int32} {x3 : Int32} {x4 : Int32} {y1 : Int32} {y2 : Int32} {y3 : Int32} {s : mG} (hM : sub 20282409603651670423947251286016 M) (h : KB M z s) : pk (F_X12_stands_103 x1 x2 x3 x4 y1 y2 y3 s) (se (fun τ => KB M z τ.2.2.2.2) (se (fun τ => KB M z τ.2.2.2) (fun τ => KB M z τ.2))) := by
  unfold F_X12_stands_103
  refine pk_nn ?_
  extract_lets +onlyGivenNames s_1
  have h_2 : KB M z s_1 := KB_mu h (hM 104 (by decide +kernel))
  clear_value s_1
  exact pk_some h_2
theorem W_X12_stands_B58 {M : Nat} {z : mG} {x1 : Int32} {x2 : Int32} {x3 : Int32} {x4 : Int32} {s : mG} (hM : sub 20282409603651670423947251286016 M) (h : KB M z s) : pk (F_X12_stands_B58 x1 x2 x3 x4 s) (se (fun τ => KB M z τ.2.2.2.2) (se (fun τ => KB M z τ.2.2.2) (fun τ => KB M z τ.2))) := by
  unfold F_X12_stands_B58
  refine pk_ite ?_ ?_
  · exact pk_some h
  · refine pk_nn ?_
    refine pk_ite ?_ ?_
    · exact (W_X12_stands_103 (sub_tr (by decide +kernel) hM) h)
    · refine pk_b1 pk_top (fun _ _ => ?_)
      exact (W_X12_stands_103 (sub_tr (by decide +kernel) hM) h)
theorem W_X12_stands_L58 {M : Nat} {z : mG} {x1 : Int32} {x2 : Int32} {x3 : Int32} {x4 : Int32} {s : mG} (hM : sub 20282409603651670423947251286016 M) (h : KB M z s) : pk (F_X12_stands_L58 x1 x2 x3 x4 s) (se (fun τ => KB M z τ.2.2.2) (fun τ => KB M z τ.2)) := by
  unfold F_X12_stands_L58
  refine pk_whl (fun v => KB M z v.2.2.2.2) h (fun v hv => ?_)
  obtain ⟨y0, y1, y2, y3, y4⟩ := v
  exact W_X12_stands_B58 (sub_tr (by decide +kernel) hM) hv
theorem W_X12_stands_B51 {M : Nat} {z : mG} {x1 : Int32} {x2 : Int32} {x3 : Int32} {s : mG} (hM : sub 20282409603651670423947251286016 M) (h : KB M z s) : pk (F_X12_stands_B51 x1 x2 x3 s) (se (fun τ => KB M z τ.2.2.2) (fun τ => KB M z τ.2)) := by
  unfold F_X12_stands_B51
  refine pk_ite ?_ ?_
  · refine pk_ite ?_ ?_
    · refine pk_b1 pk_top (fun _ _ => ?_)
      exact pk_some h
    · refine pk_ite ?_ ?_
      · refine pk_b1r ?_
        exact (W_X12_stands_157 (sub_tr (by decide +kernel) hM) h)
      · refine pk_b1r ?_
        exact (W_X12_stands_157 (sub_tr (by decide +kernel) hM) h)
  · exact (W_X12_stands_L58 (sub_tr (by decide +kernel) hM) h)
theorem W_X12_stands_L51 {M : Nat} {z : mG} {x1 : Int32} {x2 : Int32} {x3 : Int32} {s : mG} (hM : sub 20282409603651670423947251286016 M) (h : KB M z s) : pk (F_X12_stands_L51 x1 x2 x3 s) (fun τ => KB M z τ.2) := by
  unfold F_X12_stands_L51
  refine pk_whl (fun v => KB M z v.2.2.2) h (fun v hv => ?_)
  obtain ⟨y0, y1, y2, y3⟩ := v
  exact W_X12_stands_B51 (sub_tr (by decide +kernel) hM) hv
theorem W_X12_stands_28 {M : Nat} {z : mG} {x1 : Int32} {x2 : Int32} {s : mG} (hM : sub 30661298893020298648701508780032 M) (h : KB M z s) : pk (F_X12_stands_28 x1 x2 s) (fun τ => KB M z τ.2) := by
  unfold F_X12_stands_28
  refine pk_b1 (W_X12_laysDoors (sub_tr (by decide +kernel) hM) h) (fun s_1 (h_2 : KB M z s_1) => ?_)
  extract_lets +onlyGivenNames s_3
  have h_4 : KB M z s_3 := KB_mu h_2 (hM 104 (by decide +kernel))
  clear_value s_3
  extract_lets +onlyGivenNames s_5
  have h_6 : KB M z s_5 := KB_mu h_4 (hM 104 (by decide +kernel))
  clear_value s_5
  exact (W_X12_stands_L51 (sub_tr (by decide +kernel) hM) h_6)
theorem W_X12_stands {M : Nat} {z : mG} {a1 : Int32} {a2 : Int32} {s : mG} (hM : sub 30661298893020298648701508780032 M) (h : KB M z s) : pk (F_X12_stands a1 a2 s) (fun τ => KB M z τ.2) := by
  unfold F_X12_stands
  refine pk_b1 pk_top (fun _ _ => ?_)
  refine pk_ite ?_ ?_
  · exact (W_X12_stands_26 (sub_tr (by decide +kernel) hM) h)
  · refine pk_ite ?_ ?_
    · exact (W_X12_stands_28 (sub_tr (by decide +kernel) hM) h)
    · refine pk_b1 pk_top (fun _ _ => ?_)
      refine pk_ite ?_ ?_
      · exact (W_X12_stands_26 (sub_tr (by decide +kernel) hM) h)
      · exact (W_X12_stands_28 (sub_tr (by decide +kernel) hM) h)
theorem W_X12_carries_39 {M : Nat} {z : mG} {x1 : Int32} {x2 : Int32} {s : mG} (hM : sub 0 M) (h : KB M z s) : pk (F_X12_carries_39 x1 x2 s) (se (fun τ => KB M z τ.2.2) (fun τ => KB M z τ.2)) := by
  unfold F_X12_carries_39
  exact pk_some h
theorem W_X12_carries_37 {M : Nat} {z : mG} {x2 : Int32} {s : mG} (hM : sub 0 M) (h : KB M z s) : pk (F_X12_carries_37 x2 s) (se (fun τ => KB M z τ.2.2) (fun τ => KB M z τ.2)) := by
  unfold F_X12_carries_37
  exact (W_X12_carries_39 (sub_tr (by decide +kernel) hM) h)
theorem W_X12_carries_B4 {M : Nat} {z : mG} {x1 : Int32} {x2 : Int32} {s : mG} (hM : sub 237684487542793012780631851008 M) (h : KB M z s) : pk (F_X12_carries_B4 x1 x2 s) (se (fun τ => KB M z τ.2.2) (fun τ => KB M z τ.2)) := by
  unfold F_X12_carries_B4
  refine pk_ite ?_ ?_
  · exact pk_some h
  · refine pk_ite ?_ ?_
    · exact (W_X12_carries_37 (sub_tr (by decide +kernel) hM) h)
    · refine pk_b2 (W_X12_saysNow (sub_tr (by decide +kernel) hM) h) (fun _ s_1 (h_2 : KB M z s_1) => ?_)
      refine pk_b2 (W_X12_saysNow (sub_tr (by decide +kernel) hM) h_2) (fun _ s_3 (h_4 : KB M z s_3) => ?_)
      refine pk_ite ?_ ?_
      · exact (W_X12_carries_39 (sub_tr (by decide +kernel) hM) h_4)
      · exact (W_X12_carries_37 (sub_tr (by decide +kernel) hM) h_4)
theorem W_X12_carries_L4 {M : Nat} {z : mG} {x1 : Int32} {x2 : Int32} {s : mG} (hM : sub 237684487542793012780631851008 M) (h : KB M z s) : pk (F_X12_carries_L4 x1 x2 s) (fun τ => KB M z τ.2) := by
  unfold F_X12_carries_L4
  refine pk_whl (fun v => KB M z v.2.2) h (fun v hv => ?_)
  obtain ⟨y0, y1, y2⟩ := v
  exact W_X12_carries_B4 (sub_tr (by decide +kernel) hM) hv
theorem W_X12_carries {M : Nat} {z : mG} {s : mG} (hM : sub 237684487542793012780631851008 M) (h : KB M z s) : pk (F_X12_carries s) (fun τ => KB M z τ.2) := by
  unfold F_X12_carries
  exact (W_X12_carries_L4 (sub_tr (by decide +kernel) hM) h)
theorem W_X12_away_29 {M : Nat} {z : mG} {s : mG} (hM : sub 0 M) (h : KB M z s) : pk (F_X12_away_29 s) (fun τ => KB M z τ.2) := by
  unfold F_X12_away_29
  exact pk_some h
theorem W_X12_away_B38 {M : Nat} {z : mG} {x1 : Int32} {x2 : Int32} {x3 : Int32} {x4 : Int32} {s : mG} (hM : sub 237684487542793012780631851008 M) (h : KB M z s) : pk (F_X12_away_B38 x1 x2 x3 x4 s) (se (fun τ => KB M z τ.2.2.2.2) (fun τ => KB M z τ.2)) := by
  unfold F_X12_away_B38
  refine pk_ite ?_ ?_
  · exact pk_some h
  · refine pk_nn ?_
    refine pk_b1 pk_top (fun _ _ => ?_)
    refine pk_b2 (W_X12_saysIn (sub_tr (by decide +kernel) hM) h) (fun _ s_1 (h_2 : KB M z s_1) => ?_)
    extract_lets +onlyGivenNames v_3
    clear_value v_3
    exact pk_some h_2
theorem W_X12_away_L38 {M : Nat} {z : mG} {x1 : Int32} {x2 : Int32} {x3 : Int32} {x4 : Int32} {s : mG} (hM : sub 237684487542793012780631851008 M) (h : KB M z s) : pk (F_X12_away_L38 x1 x2 x3 x4 s) (fun τ => KB M z τ.2) := by
  unfold F_X12_away_L38
  refine pk_whl (fun v => KB M z v.2.2.2.2) h (fun v hv => ?_)
  obtain ⟨y0, y1, y2, y3, y4⟩ := v
  exact W_X12_away_B38 (sub_tr (by decide +kernel) hM) hv
theorem W_X12_away {M : Nat} {z : mG} {a1 : Int32} {a2 : Int32} {s : mG} (hM : sub 237684487542793012780631851008 M) (h : KB M z s) : pk (F_X12_away a1 a2 s) (fun τ => KB M z τ.2) := by
  unfold F_X12_away
  refine pk_b1 pk_top (fun _ _ => ?_)
  refine pk_ite ?_ ?_
  · exact (W_X12_away_29 (sub_tr (by decide +kernel) hM) h)
  · refine pk_nn ?_
    refine pk_ite ?_ ?_
    · exact (W_X12_away_29 (sub_tr (by decide +kernel) hM) h)
    · refine pk_b1 pk_top (fun _ _ => ?_)
      refine pk_ite ?_ ?_
      · exact (W_X12_away_29 (sub_tr (by decide +kernel) hM) h)
      · exact (W_X12_away_L38 (sub_tr (by decide +kernel) hM) h)
theorem W_X12_of {M : Nat} {z : mG} {a1 : Int32} {a2 : Int32} {s : mG} (hM : sub 237684487542793012780631851008 M) (h : KB M z s) : pk (F_X12_of a1 a2 s) (fun τ => KB M z τ.2) := by
  unfold F_X12_of
  refine pk_b1 pk_top (fun _ _ => ?_)
  refine pk_ite ?_ ?_
  · exact pk_some h
  · refine pk_ite ?_ ?_
    · refine pk_nn ?_
      extract_lets +onlyGivenNames v_1
      clear_value v_1
      exact pk_some h
    · refine pk_ite ?_ ?_
      · refine pk_nn ?_
        extract_lets +onlyGivenNames v_2
        clear_value v_2
        exact pk_some h
      · refine pk_ite ?_ ?_
        · refine pk_nn ?_
          extract_lets +onlyGivenNames v_3
          clear_value v_3
          exact pk_some h
        · refine pk_ite ?_ ?_
          · refine pk_nn ?_
            extract_lets +onlyGivenNames v_4
            clear_value v_4
            exact pk_some h
          · refine pk_ite ?_ ?_
            · refine pk_nn ?_
              extract_lets +onlyGivenNames v_5
              clear_value v_5
              exact pk_some h
            · refine pk_ite ?_ ?_
              · refine pk_b2 (W_X12_sureOf (sub_tr (by decide +kernel) hM) h) (fun _ s_6 (h_7 : KB M z s_6) => ?_)
                exact pk_some h_7
              · refine pk_b1 pk_top (fun _ _ => ?_)
                refine pk_ite ?_ ?_
                · exact pk_some h
                · refine pk_b2 (W_X12_saysNow (sub_tr (by decide +kernel) hM) h) (fun _ s_8 (h_9 : KB M z s_8) => ?_)
                  exact pk_some h_9
theorem W_X12_image_67 {M : Nat} {z : mG} {s : mG} (hM : sub 309485009821345068724781056 M) (h : KB M z s) : pk (F_X12_image_67 s) (fun τ => KB M z τ.2) := by
  unfold F_X12_image_67
  extract_lets +onlyGivenNames s_1
  have h_2 : KB M z s_1 := KB_mu h (hM 88 (by decide +kernel))
  clear_value s_1
  exact pk_some h_2
theorem W_X12_image_53 {M : Nat} {z : mG} {x1 : Int32} {x2 : Int32} {s : mG} (hM : sub 0 M) (h : KB M z s) : pk (F_X12_image_53 x1 x2 s) (se (fun τ => KB M z τ.2.2) (fun τ => KB M z τ.2)) := by
  unfold F_X12_image_53
  exact pk_some h
theorem W_X12_image_B15 {M : Nat} {z : mG} {x1 : Int32} {x2 : Int32} {s : mG} (hM : sub 2166395068749415481073467392 M) (h : KB M z s) : pk (F_X12_image_B15 x1 x2 s) (se (fun τ => KB M z τ.2.2) (fun τ => KB M z τ.2)) := by
  unfold F_X12_image_B15
  refine pk_ite ?_ ?_
  · refine pk_ite ?_ ?_
    · refine pk_b1 (W_X12_forgets (sub_tr (by decide +kernel) hM) h) (fun s_1 (h_2 : KB M z s_1) => ?_)
      refine pk_b1r ?_
      exact (W_X12_image_67 (sub_tr (by decide +kernel) hM) h_2)
    · refine pk_b1r ?_
      exact (W_X12_image_67 (sub_tr (by decide +kernel) hM) h)
  · refine pk_ite ?_ ?_
    · refine pk_nn ?_
      refine pk_nn ?_
      extract_lets +onlyGivenNames s_3
      have h_4 : KB M z s_3 := KB_mu h (hM 89 (by decide +kernel))
      clear_value s_3
      exact (W_X12_image_53 (sub_tr (by decide +kernel) hM) h_4)
    · refine pk_nn ?_
      refine pk_nn ?_
      extract_lets +onlyGivenNames s_5
      have h_6 : KB M z s_5 := KB_mu h (hM 90 (by decide +kernel))
      clear_value s_5
      exact (W_X12_image_53 (sub_tr (by decide +kernel) hM) h_6)
theorem W_X12_image_L15 {M : Nat} {z : mG} {x1 : Int32} {x2 : Int32} {s : mG} (hM : sub 2166395068749415481073467392 M) (h : KB M z s) : pk (F_X12_image_L15 x1 x2 s) (fun τ => KB M z τ.2) := by
  unfold F_X12_image_L15
  refine pk_whl (fun v => KB M z v.2.2) h (fun v hv => ?_)
  obtain ⟨y0, y1, y2⟩ := v
  exact W_X12_image_B15 (sub_tr (by decide +kernel) hM) hv
theorem W_X12_image_13 {M : Nat} {z : mG} {x1 : Int32} {s : mG} (hM : sub 2166395068749415481073467392 M) (h : KB M z s) : pk (F_X12_image_13 x1 s) (fun τ => KB M z τ.2) := by
  unfold F_X12_image_13
  exact (W_X12_image_L15 (sub_tr (by decide +kernel) hM) h)
theorem W_X12_image {M : Nat} {z : mG} {a1 : Int32} {s : mG} (hM : sub 2166395068749415481073467392 M) (h : KB M z s) : pk (F_X12_image a1 s) (fun τ => KB M z τ.2) := by
  unfold F_X12_image
  refine pk_ite ?_ ?_
  · refine pk_ite ?_ ?_
    · exact pk_some h
    · exact (W_X12_image_13 (sub_tr (by decide +kernel) hM) h)
  · exact (W_X12_image_13 (sub_tr (by decide +kernel) hM) h)
end
end
/-! 59.w0.keep -/
section
noncomputable section
theorem K_X0_glanceAt_B2 {v0 : Int32} {x1 : Int32} {x2 : Int32} {s : mG} (h : KV 0 2 v0 s) : pk (F_X0_glanceAt_B2 x1 x2 s) (se (fun τ => KV 0 2 v0 τ.2.2) (fun τ => KV 0 2 v0 τ)) := by
  unfold F_X0_glanceAt_B2
  refine pk_ite ?_ ?_
  · exact pk_some h
  · refine pk_b1 pk_top (fun _ _ => ?_)
    refine pk_nn ?_
    extract_lets +onlyGivenNames s_1
    have h_2 : KV 0 2 v0 s_1 := KV_mu h (Or.inl (by decide))
    clear_value s_1
    exact pk_some h_2
theorem K_X0_glanceAt_L2 {v0 : Int32} {x1 : Int32} {x2 : Int32} {s : mG} (h : KV 0 2 v0 s) : pk (F_X0_glanceAt_L2 x1 x2 s) (fun τ => KV 0 2 v0 τ) := by
  unfold F_X0_glanceAt_L2
  refine pk_whl (fun v => KV 0 2 v0 v.2.2) h (fun v hv => ?_)
  obtain ⟨y0, y1, y2⟩ := v
  exact K_X0_glanceAt_B2 hv
theorem K_X0_glanceAt {v0 : Int32} {a1 : Int32} {s : mG} (h : KV 0 2 v0 s) : pk (F_X0_glanceAt a1 s) (fun τ => KV 0 2 v0 τ) := by
  unfold F_X0_glanceAt
  exact (K_X0_glanceAt_L2 h)
theorem K_X11_put {v0 : Int32} {a1 : Nat} {a2 : Int32} {a3 : Int32} {s : mG} (ha : a1 ≠ 0) (h : KV 0 2 v0 s) : pk (F_X11_put a1 a2 a3 s) (fun τ => KV 0 2 v0 τ) := by
  unfold F_X11_put
  refine pk_ite ?_ ?_
  · exact pk_some h
  · refine pk_b1 pk_top (fun _ _ => ?_)
    refine pk_ite ?_ ?_
    · exact pk_some h
    · refine pk_bs (fun _ => ?_)
      refine pk_nn ?_
      extract_lets +onlyGivenNames s_1
      have h_2 : KV 0 2 v0 s_1 := KV_mu h (Or.inl (Ne.symm ha))
      clear_value s_1
      exact pk_some h_2
theorem K_X3_supposeHour {v0 : Int32} {a1 : Int32} {s : mG} (h : KV 0 2 v0 s) : pk (F_X3_supposeHour a1 s) (fun τ => KV 0 2 v0 τ) := by
  unfold F_X3_supposeHour
  refine pk_b1 (K_X11_put (by decide) h) (fun s_1 (h_2 : KV 0 2 v0 s_1) => ?_)
  refine pk_b1 (K_X11_put (by decide) h_2) (fun s_3 (h_4 : KV 0 2 v0 s_3) => ?_)
  exact pk_some h_4
theorem K_X3_face_107 {v0 : Int32} {x1 : Int32} {y1 : Int32} {y2 : Int32} {s : mG} (h : KV 0 2 v0 s) : pk (F_X3_face_107 x1 y1 y2 s) (fun τ => KV 0 2 v0 τ) := by
  unfold F_X3_face_107
  refine pk_b1 (K_X11_put (by decide) h) (fun s_1 (h_2 : KV 0 2 v0 s_1) => ?_)
  refine pk_b1 pk_top (fun _ _ => ?_)
  refine pk_b1 (K_X11_put (by decide) h_2) (fun s_3 (h_4 : KV 0 2 v0 s_3) => ?_)
  refine pk_b1 (K_X3_supposeHour h_4) (fun s_5 (h_6 : KV 0 2 v0 s_5) => ?_)
  exact pk_some h_6
theorem K_X3_face {v0 : Int32} {a1 : Int32} {s : mG} (h : KV 0 2 v0 s) : pk (F_X3_face a1 s) (fun τ => KV 0 2 v0 τ) := by
  unfold F_X3_face
  refine pk_b1 (K_X11_put (by decide) h) (fun s_1 (h_2 : KV 0 2 v0 s_1) => ?_)
  refine pk_b1 pk_top (fun _ _ => ?_)
  refine pk_b1 (K_X11_put (by decide) h_2) (fun s_3 (h_4 : KV 0 2 v0 s_3) => ?_)
  refine pk_b1 pk_top (fun _ _ => ?_)
  refine pk_b1 (K_X11_put (by decide) h_4) (fun s_5 (h_6 : KV 0 2 v0 s_5) => ?_)
  refine pk_b1 (K_X11_put (by decide) h_6) (fun s_7 (h_8 : KV 0 2 v0 s_7) => ?_)
  refine pk_b1 (K_X11_put (by decide) h_8) (fun s_9 (h_10 : KV 0 2 v0 s_9) => ?_)
  refine pk_b1 pk_top (fun _ _ => ?_)
  refine pk_ite ?_ ?_
  · exact (K_X3_face_107 h_10)
  · exact (K_X3_face_107 h_10)
theorem K_X3_valueOf_229 {v0 : Int32} {x2 : Int32} {x3 : Int32} {x4 : Int32} {s : mG} (h : KV 0 2 v0 s) : pk (F_X3_valueOf_229 x2 x3 x4 s) (se (fun τ => KV 0 2 v0 τ.2.2.2) (fun τ => KV 0 2 v0 τ.2)) := by
  unfold F_X3_valueOf_229
  exact pk_some h
theorem K_X3_valueOf_199 {v0 : Int32} {x2 : Int32} {x3 : Int32} {x4 : Int32} {x5 : Int32} {x7 : Int32} {s : mG} (h : KV 0 2 v0 s) : pk (F_X3_valueOf_199 x2 x3 x4 x5 x7 s) (se (fun τ => KV 0 2 v0 τ.2.2.2) (fun τ => KV 0 2 v0 τ.2)) := by
  unfold F_X3_valueOf_199
  refine pk_b1 pk_top (fun _ _ => ?_)
  refine pk_b1 pk_top (fun _ _ => ?_)
  refine pk_b1 (K_X11_put (by decide) h) (fun s_1 (h_2 : KV 0 2 v0 s_1) => ?_)
  exact (K_X3_valueOf_229 h_2)
theorem K_X3_valueOf_176 {v0 : Int32} {x2 : Int32} {x3 : Int32} {x4 : Int32} {y1 : Int32} {y2 : Int32} {s : mG} (h : KV 0 2 v0 s) : pk (F_X3_valueOf_176 x2 x3 x4 y1 y2 s) (se (fun τ => KV 0 2 v0 τ.2.2.2) (fun τ => KV 0 2 v0 τ.2)) := by
  unfold F_X3_valueOf_176
  refine pk_b1 (K_X11_put (by decide) h) (fun s_1 (h_2 : KV 0 2 v0 s_1) => ?_)
  exact (K_X3_valueOf_229 h_2)
theorem K_X3_valueOf_B5 {v0 : Int32} {x2 : Int32} {x3 : Int32} {x4 : Int32} {s : mG} (h : KV 0 2 v0 s) : pk (F_X3_valueOf_B5 x2 x3 x4 s) (se (fun τ => KV 0 2 v0 τ.2.2.2) (fun τ => KV 0 2 v0 τ.2)) := by
  unfold F_X3_valueOf_B5
  refine pk_ite ?_ ?_
  · refine pk_b1 pk_top (fun _ _ => ?_)
    exact pk_some h
  · refine pk_b1 pk_top (fun _ _ => ?_)
    refine pk_b1 pk_top (fun _ _ => ?_)
    refine pk_b1 pk_top (fun _ _ => ?_)
    refine pk_ite ?_ ?_
    · refine pk_b1 (K_X11_put (by decide) h) (fun s_1 (h_2 : KV 0 2 v0 s_1) => ?_)
      exact (K_X3_valueOf_229 h_2)
    · refine pk_ite ?_ ?_
      · refine pk_b1 pk_top (fun _ _ => ?_)
        refine pk_b1 (K_X11_put (by decide) h) (fun s_3 (h_4 : KV 0 2 v0 s_3) => ?_)
        exact (K_X3_valueOf_229 h_4)
      · refine pk_ite ?_ ?_
        · exact (K_X3_valueOf_199 h)
        · refine pk_ite ?_ ?_
          · exact (K_X3_valueOf_199 h)
          · refine pk_ite ?_ ?_
            · exact (K_X3_valueOf_199 h)
            · refine pk_ite ?_ ?_
              · refine pk_ite ?_ ?_
                · exact (K_X3_valueOf_176 h)
                · refine pk_nn ?_
                  exact (K_X3_valueOf_176 h)
              · refine pk_ite ?_ ?_
                · exact (K_X3_valueOf_199 h)
                · refine pk_ite ?_ ?_
                  · exact (K_X3_valueOf_199 h)
                  · refine pk_ite ?_ ?_
                    · exact (K_X3_valueOf_199 h)
                    · refine pk_ite ?_ ?_
                      · refine pk_b1 (K_X11_put (by decide) h) (fun s_5 (h_6 : KV 0 2 v0 s_5) => ?_)
                        exact (K_X3_valueOf_229 h_6)
                      · exact (K_X3_valueOf_199 h)
theorem K_X3_valueOf_L5 {v0 : Int32} {x2 : Int32} {x3 : Int32} {x4 : Int32} {s : mG} (h : KV 0 2 v0 s) : pk (F_X3_valueOf_L5 x2 x3 x4 s) (fun τ => KV 0 2 v0 τ.2) := by
  unfold F_X3_valueOf_L5
  refine pk_whl (fun v => KV 0 2 v0 v.2.2.2) h (fun v hv => ?_)
  obtain ⟨y0, y1, y2, y3⟩ := v
  exact K_X3_valueOf_B5 hv
theorem K_X3_valueOf {v0 : Int32} {a1 : Int32} {a2 : Int32} {s : mG} (h : KV 0 2 v0 s) : pk (F_X3_valueOf a1 a2 s) (fun τ => KV 0 2 v0 τ.2) := by
  unfold F_X3_valueOf
  exact (K_X3_valueOf_L5 h)
theorem K_X3_tells_115 {v0 : Int32} {x1 : Int32} {x2 : Int32} {s : mG} (h : KV 0 2 v0 s) : pk (F_X3_tells_115 x1 x2 s) (se (fun τ => KV 0 2 v0 τ.2.2) (fun τ => KV 0 2 v0 τ.2)) := by
  unfold F_X3_tells_115
  exact pk_some h
theorem K_X3_tells_87 {v0 : Int32} {x2 : Int32} {x3 : Int32} {s : mG} (h : KV 0 2 v0 s) : pk (F_X3_tells_87 x2 x3 s) (fun τ => KV 0 2 v0 τ.2) := by
  unfold F_X3_tells_87
  refine pk_b1 pk_top (fun _ _ => ?_)
  refine pk_b2 (K_X3_valueOf h) (fun _ s_1 (h_2 : KV 0 2 v0 s_1) => ?_)
  extract_lets +onlyGivenNames v_3
  clear_value v_3
  exact pk_some h_2
theorem K_X3_tells_64 {v0 : Int32} {x1 : Int32} {x2 : Int32} {x3 : Int32} {x4 : Int32} {y0 : Int32} {s : mG} (h : KV 0 2 v0 s) : pk (F_X3_tells_64 x1 x2 x3 x4 y0 s) (se (fun τ => KV 0 2 v0 τ.2.2) (fun τ => KV 0 2 v0 τ.2)) := by
  unfold F_X3_tells_64
  refine pk_ite ?_ ?_
  · exact (K_X3_tells_115 h)
  · refine pk_ite ?_ ?_
    · refine pk_b1r ?_
      exact (K_X3_tells_87 h)
    · refine pk_b2 (K_X3_valueOf h) (fun _ s_1 (h_2 : KV 0 2 v0 s_1) => ?_)
      refine pk_ite ?_ ?_
      · exact (K_X3_tells_115 h_2)
      · refine pk_b1r ?_
        exact (K_X3_tells_87 h_2)
theorem K_X3_tells_B2 {v0 : Int32} {x1 : Int32} {x2 : Int32} {s : mG} (h : KV 0 2 v0 s) : pk (F_X3_tells_B2 x1 x2 s) (se (fun τ => KV 0 2 v0 τ.2.2) (fun τ => KV 0 2 v0 τ.2)) := by
  unfold F_X3_tells_B2
  refine pk_ite ?_ ?_
  · refine pk_ite ?_ ?_
    · refine pk_b1 pk_top (fun _ _ => ?_)
      refine pk_ite ?_ ?_
      · exact pk_some h
      · exact pk_some h
    · refine pk_b1 pk_top (fun _ _ => ?_)
      exact pk_some h
  · refine pk_b1 pk_top (fun _ _ => ?_)
    refine pk_b1 pk_top (fun _ _ => ?_)
    refine pk_b1 pk_top (fun _ _ => ?_)
    refine pk_ite ?_ ?_
    · exact (K_X3_tells_64 h)
    · exact (K_X3_tells_64 h)
theorem K_X3_tells_L2 {v0 : Int32} {x1 : Int32} {x2 : Int32} {s : mG} (h : KV 0 2 v0 s) : pk (F_X3_tells_L2 x1 x2 s) (fun τ => KV 0 2 v0 τ.2) := by
  unfold F_X3_tells_L2
  refine pk_whl (fun v => KV 0 2 v0 v.2.2) h (fun v hv => ?_)
  obtain ⟨y0, y1, y2⟩ := v
  exact K_X3_tells_B2 hv
theorem K_X3_tells {v0 : Int32} {a1 : Int32} {s : mG} (h : KV 0 2 v0 s) : pk (F_X3_tells a1 s) (fun τ => KV 0 2 v0 τ.2) := by
  unfold F_X3_tells
  exact (K_X3_tells_L2 h)
theorem K_X0_sureByGlance_74 {v0 : Int32} {x3 : Int32} {y0 : Int32} {s : mG} (h : KV 0 2 v0 s) : pk (F_X0_sureByGlance_74 x3 y0 s) (se (fun τ => KV 0 2 v0 τ.2.2) (fun τ => KV 0 2 v0 τ.2)) := by
  unfold F_X0_sureByGlance_74
  exact pk_some h
theorem K_X0_sureByGlance_71 {v0 : Int32} {x3 : Int32} {y1 : Int32} {y2 : Int32} {y3 : Int32} {s : mG} (h : KV 0 2 v0 s) : pk (F_X0_sureByGlance_71 x3 y1 y2 y3 s) (se (fun τ => KV 0 2 v0 τ.2.2) (fun τ => KV 0 2 v0 τ.2)) := by
  unfold F_X0_sureByGlance_71
  refine pk_b1 pk_top (fun _ _ => ?_)
  exact (K_X0_sureByGlance_74 h)
theorem K_X0_sureByGlance_B23 {v0 : Int32} {x2 : Int32} {x3 : Int32} {s : mG} (h : KV 0 2 v0 s) : pk (F_X0_sureByGlance_B23 x2 x3 s) (se (fun τ => KV 0 2 v0 τ.2.2) (fun τ => KV 0 2 v0 τ.2)) := by
  unfold F_X0_sureByGlance_B23
  refine pk_ite ?_ ?_
  · exact pk_some h
  · refine pk_b1 pk_top (fun _ _ => ?_)
    refine pk_ite ?_ ?_
    · exact (K_X0_sureByGlance_74 h)
    · refine pk_ite ?_ ?_
      · exact (K_X0_sureByGlance_71 h)
      · exact (K_X0_sureByGlance_71 h)
theorem K_X0_sureByGlance_L23 {v0 : Int32} {x2 : Int32} {x3 : Int32} {s : mG} (h : KV 0 2 v0 s) : pk (F_X0_sureByGlance_L23 x2 x3 s) (fun τ => KV 0 2 v0 τ.2) := by
  unfold F_X0_sureByGlance_L23
  refine pk_whl (fun v => KV 0 2 v0 v.2.2) h (fun v hv => ?_)
  obtain ⟨y0, y1, y2⟩ := v
  exact K_X0_sureByGlance_B23 hv
theorem K_X0_sureByGlance {v0 : Int32} {a1 : Int32} {s : mG} (h : KV 0 2 v0 s) : pk (F_X0_sureByGlance a1 s) (fun τ => KV 0 2 v0 τ.2) := by
  unfold F_X0_sureByGlance
  refine pk_b1 (K_X3_face h) (fun s_1 (h_2 : KV 0 2 v0 s_1) => ?_)
  refine pk_b2 (K_X3_tells h_2) (fun _ s_3 (h_4 : KV 0 2 v0 s_3) => ?_)
  exact (K_X0_sureByGlance_L23 h_4)
theorem K_X0_sureOf {v0 : Int32} {a1 : Int32} {s : mG} (h : KV 0 2 v0 s) : pk (F_X0_sureOf a1 s) (fun τ => KV 0 2 v0 τ.2) := by
  unfold F_X0_sureOf
  refine pk_b1 (K_X0_glanceAt h) (fun s_1 (h_2 : KV 0 2 v0 s_1) => ?_)
  refine pk_b2 (K_X0_sureByGlance h_2) (fun _ s_3 (h_4 : KV 0 2 v0 s_3) => ?_)
  exact pk_some h_4
theorem K_X0_signAt_39 {v0 : Int32} {x5 : Int32} {s : mG} (h : KV 0 2 v0 s) : pk (F_X0_signAt_39 x5 s) (fun τ => KV 0 2 v0 τ.2) := by
  unfold F_X0_signAt_39
  exact pk_some h
theorem K_X0_signAt_66 {v0 : Int32} {x1 : Int32} {x2 : Int32} {x3 : Int32} {y1 : Int32} {y2 : Int32} {s : mG} (h : KV 0 2 v0 s) : pk (F_X0_signAt_66 x1 x2 x3 y1 y2 s) (se (fun τ => KV 0 2 v0 τ.2.2.2) (fun τ => KV 0 2 v0 τ.2)) := by
  unfold F_X0_signAt_66
  refine pk_b1 (K_X11_put (by decide) h) (fun s_1 (h_2 : KV 0 2 v0 s_1) => ?_)
  exact pk_some h_2
theorem K_X0_signAt_B7 {v0 : Int32} {x1 : Int32} {x2 : Int32} {x3 : Int32} {s : mG} (h : KV 0 2 v0 s) : pk (F_X0_signAt_B7 x1 x2 x3 s) (se (fun τ => KV 0 2 v0 τ.2.2.2) (fun τ => KV 0 2 v0 τ.2)) := by
  unfold F_X0_signAt_B7
  refine pk_ite ?_ ?_
  · exact pk_some h
  · refine pk_b2 (K_X0_sureByGlance h) (fun _ s_1 (h_2 : KV 0 2 v0 s_1) => ?_)
    refine pk_b1 pk_top (fun _ _ => ?_)
    refine pk_ite ?_ ?_
    · refine pk_b1r ?_
      exact (K_X0_signAt_39 h_2)
    · refine pk_ite ?_ ?_
      · refine pk_b1r ?_
        exact (K_X0_signAt_39 h_2)
      · refine pk_b1 pk_top (fun _ _ => ?_)
        refine pk_ite ?_ ?_
        · exact (K_X0_signAt_66 h_2)
        · exact (K_X0_signAt_66 h_2)
theorem K_X0_signAt_L7 {v0 : Int32} {x1 : Int32} {x2 : Int32} {x3 : Int32} {s : mG} (h : KV 0 2 v0 s) : pk (F_X0_signAt_L7 x1 x2 x3 s) (fun τ => KV 0 2 v0 τ.2) := by
  unfold F_X0_signAt_L7
  refine pk_whl (fun v => KV 0 2 v0 v.2.2.2) h (fun v hv => ?_)
  obtain ⟨y0, y1, y2, y3⟩ := v
  exact K_X0_signAt_B7 hv
theorem K_X0_signAt {v0 : Int32} {a1 : Int32} {a2 : Int32} {s : mG} (h : KV 0 2 v0 s) : pk (F_X0_signAt a1 a2 s) (fun τ => KV 0 2 v0 τ.2) := by
  unfold F_X0_signAt
  refine pk_b1 (K_X0_glanceAt h) (fun s_1 (h_2 : KV 0 2 v0 s_1) => ?_)
  exact (K_X0_signAt_L7 h_2)
theorem K_X0_saysIn {v0 : Int32} {a1 : Int32} {a2 : Int32} {a3 : Int32} {s : mG} (h : KV 0 2 v0 s) : pk (F_X0_saysIn a1 a2 a3 s) (fun τ => KV 0 2 v0 τ.2) := by
  unfold F_X0_saysIn
  refine pk_b2 (K_X0_sureOf h) (fun _ s_1 (h_2 : KV 0 2 v0 s_1) => ?_)
  refine pk_b1 pk_top (fun _ _ => ?_)
  refine pk_pp ?_
  exact pk_some h_2
theorem K_X0_saidToAll_125 {v0 : Int32} {x1 : Int32} {x2 : Int32} {x4 : Int32} {y0 : Int32} {y1 : Int32} {s : mG} (h : KV 0 2 v0 s) : pk (F_X0_saidToAll_125 x1 x2 x4 y0 y1 s) (se (fun τ => KV 0 2 v0 τ.2.2.2.2) (fun τ => KV 0 2 v0 τ.2)) := by
  unfold F_X0_saidToAll_125
  exact pk_some h
theorem K_X0_saidToAll_97 {v0 : Int32} {x1 : Int32} {x3 : Int32} {x4 : Int32} {x5 : Int32} {x6 : Int32} {x7 : Int32} {x8 : Int32} {y0 : Int32} {y1 : Int32} {s : mG} (h : KV 0 2 v0 s) : pk (F_X0_saidToAll_97 x1 x3 x4 x5 x6 x7 x8 y0 y1 s) (se (fun τ => KV 0 2 v0 τ.2.2.2.2) (fun τ => KV 0 2 v0 τ.2)) := by
  unfold F_X0_saidToAll_97
  refine pk_ite ?_ ?_
  · refine pk_b1 pk_top (fun _ _ => ?_)
    exact (K_X0_saidToAll_125 h)
  · refine pk_b1 pk_top (fun _ _ => ?_)
    exact (K_X0_saidToAll_125 h)
theorem K_X0_saidToAll_B7 {v0 : Int32} {x1 : Int32} {x2 : Int32} {x3 : Int32} {x4 : Int32} {s : mG} (h : KV 0 2 v0 s) : pk (F_X0_saidToAll_B7 x1 x2 x3 x4 s) (se (fun τ => KV 0 2 v0 τ.2.2.2.2) (fun τ => KV 0 2 v0 τ.2)) := by
  unfold F_X0_saidToAll_B7
  refine pk_ite ?_ ?_
  · refine pk_ite ?_ ?_
    · exact pk_some h
    · exact pk_some h
  · refine pk_b1 pk_top (fun _ _ => ?_)
    refine pk_b2 (K_X0_sureOf h) (fun _ s_1 (h_2 : KV 0 2 v0 s_1) => ?_)
    refine pk_b1 pk_top (fun _ _ => ?_)
    refine pk_b1 pk_top (fun _ _ => ?_)
    refine pk_b1 pk_top (fun _ _ => ?_)
    refine pk_ite ?_ ?_
    · exact (K_X0_saidToAll_97 h_2)
    · exact (K_X0_saidToAll_97 h_2)
theorem K_X0_saidToAll_L7 {v0 : Int32} {x1 : Int32} {x2 : Int32} {x3 : Int32} {x4 : Int32} {s : mG} (h : KV 0 2 v0 s) : pk (F_X0_saidToAll_L7 x1 x2 x3 x4 s) (fun τ => KV 0 2 v0 τ.2) := by
  unfold F_X0_saidToAll_L7
  refine pk_whl (fun v => KV 0 2 v0 v.2.2.2.2) h (fun v hv => ?_)
  obtain ⟨y0, y1, y2, y3, y4⟩ := v
  exact K_X0_saidToAll_B7 hv
theorem K_X0_saidToAll {v0 : Int32} {a1 : Int32} {s : mG} (h : KV 0 2 v0 s) : pk (F_X0_saidToAll a1 s) (fun τ => KV 0 2 v0 τ.2) := by
  unfold F_X0_saidToAll
  exact (K_X0_saidToAll_L7 h)
theorem K_X0_weighAll_B2 {v0 : Int32} {x1 : Int32} {s : mG} (h : KV 0 2 v0 s) : pk (F_X0_weighAll_B2 x1 s) (se (fun τ => KV 0 2 v0 τ.2) (fun τ => KV 0 2 v0 τ)) := by
  unfold F_X0_weighAll_B2
  refine pk_ite ?_ ?_
  · exact pk_some h
  · refine pk_b1 (K_X0_glanceAt h) (fun s_1 (h_2 : KV 0 2 v0 s_1) => ?_)
    refine pk_b2 (K_X0_sureByGlance h_2) (fun _ s_3 (h_4 : KV 0 2 v0 s_3) => ?_)
    refine pk_b1 (K_X11_put (by decide) h_4) (fun s_5 (h_6 : KV 0 2 v0 s_5) => ?_)
    exact pk_some h_6
theorem K_X0_weighAll_L2 {v0 : Int32} {x1 : Int32} {s : mG} (h : KV 0 2 v0 s) : pk (F_X0_weighAll_L2 x1 s) (fun τ => KV 0 2 v0 τ) := by
  unfold F_X0_weighAll_L2
  refine pk_whl (fun v => KV 0 2 v0 v.2) h (fun v hv => ?_)
  obtain ⟨y0, y1⟩ := v
  exact K_X0_weighAll_B2 hv
theorem K_X0_weighAll {v0 : Int32} {s : mG} (h : KV 0 2 v0 s) : pk (F_X0_weighAll s) (fun τ => KV 0 2 v0 τ) := by
  unfold F_X0_weighAll
  exact (K_X0_weighAll_L2 h)
theorem K_X0_sumOfSure_B8 {v0 : Int32} {x1 : Int32} {x2 : Int32} {s : mG} (h : KV 0 2 v0 s) : pk (F_X0_sumOfSure_B8 x1 x2 s) (se (fun τ => KV 0 2 v0 τ.2.2) (fun τ => KV 0 2 v0 τ.2)) := by
  unfold F_X0_sumOfSure_B8
  refine pk_ite ?_ ?_
  · exact pk_some h
  · refine pk_b1 pk_top (fun _ _ => ?_)
    exact pk_some h
theorem K_X0_sumOfSure_L8 {v0 : Int32} {x1 : Int32} {x2 : Int32} {s : mG} (h : KV 0 2 v0 s) : pk (F_X0_sumOfSure_L8 x1 x2 s) (fun τ => KV 0 2 v0 τ.2) := by
  unfold F_X0_sumOfSure_L8
  refine pk_whl (fun v => KV 0 2 v0 v.2.2) h (fun v hv => ?_)
  obtain ⟨y0, y1, y2⟩ := v
  exact K_X0_sumOfSure_B8 hv
theorem K_X0_sumOfSure {v0 : Int32} {s : mG} (h : KV 0 2 v0 s) : pk (F_X0_sumOfSure s) (fun τ => KV 0 2 v0 τ.2) := by
  unfold F_X0_sumOfSure
  refine pk_b1 (K_X0_weighAll h) (fun s_1 (h_2 : KV 0 2 v0 s_1) => ?_)
  exact (K_X0_sumOfSure_L8 h_2)
theorem K_X0_countChance_B8 {v0 : Int32} {x1 : Int32} {x2 : Int32} {s : mG} (h : KV 0 2 v0 s) : pk (F_X0_countChance_B8 x1 x2 s) (se (fun τ => KV 0 2 v0 τ.2.2) (fun τ => KV 0 2 v0 τ)) := by
  unfold F_X0_countChance_B8
  refine pk_ite ?_ ?_
  · exact pk_some h
  · refine pk_b1 pk_top (fun _ _ => ?_)
    refine pk_b1 pk_top (fun _ _ => ?_)
    refine pk_b1 pk_top (fun _ _ => ?_)
    refine pk_b1 pk_top (fun _ _ => ?_)
    refine pk_b1 (K_X11_put (by decide) h) (fun s_1 (h_2 : KV 0 2 v0 s_1) => ?_)
    exact pk_some h_2
theorem K_X0_countChance_L8 {v0 : Int32} {x1 : Int32} {x2 : Int32} {s : mG} (h : KV 0 2 v0 s) : pk (F_X0_countChance_L8 x1 x2 s) (fun τ => KV 0 2 v0 τ) := by
  unfold F_X0_countChance_L8
  refine pk_whl (fun v => KV 0 2 v0 v.2.2) h (fun v hv => ?_)
  obtain ⟨y0, y1, y2⟩ := v
  exact K_X0_countChance_B8 hv
theorem K_X0_countChance {v0 : Int32} {a1 : Int32} {s : mG} (h : KV 0 2 v0 s) : pk (F_X0_countChance a1 s) (fun τ => KV 0 2 v0 τ) := by
  unfold F_X0_countChance
  exact (K_X0_countChance_L8 h)
theorem K_X0_countChances_70 {v0 : Int32} {x1 : Int32} {x2 : Int32} {s : mG} (h : KV 0 2 v0 s) : pk (F_X0_countChances_70 x1 x2 s) (se (fun τ => KV 0 2 v0 τ.2.2) (fun τ => KV 0 2 v0 τ)) := by
  unfold F_X0_countChances_70
  exact pk_some h
theorem K_X0_countChances_B39 {v0 : Int32} {x1 : Int32} {x2 : Int32} {s : mG} (h : KV 0 2 v0 s) : pk (F_X0_countChances_B39 x1 x2 s) (se (fun τ => KV 0 2 v0 τ.2.2) (fun τ => KV 0 2 v0 τ)) := by
  unfold F_X0_countChances_B39
  refine pk_ite ?_ ?_
  · exact pk_some h
  · refine pk_ite ?_ ?_
    · exact (K_X0_countChances_70 h)
    · refine pk_b1 pk_top (fun _ _ => ?_)
      refine pk_b1 (K_X0_countChance h) (fun s_1 (h_2 : KV 0 2 v0 s_1) => ?_)
      exact (K_X0_countChances_70 h_2)
theorem K_X0_countChances_L39 {v0 : Int32} {x1 : Int32} {x2 : Int32} {s : mG} (h : KV 0 2 v0 s) : pk (F_X0_countChances_L39 x1 x2 s) (fun τ => KV 0 2 v0 τ) := by
  unfold F_X0_countChances_L39
  refine pk_whl (fun v => KV 0 2 v0 v.2.2) h (fun v hv => ?_)
  obtain ⟨y0, y1, y2⟩ := v
  exact K_X0_countChances_B39 hv
theorem K_X0_countChances_30 {v0 : Int32} {x1 : Int32} {x2 : Int32} {y1 : Int32} {y2 : Int32} {s : mG} (h : KV 0 2 v0 s) : pk (F_X0_countChances_30 x1 x2 y1 y2 s) (se (fun τ => KV 0 2 v0 τ.2.2) (fun τ => KV 0 2 v0 τ)) := by
  unfold F_X0_countChances_30
  refine pk_nn ?_
  extract_lets +onlyGivenNames s_1
  have h_2 : KV 0 2 v0 s_1 := KV_mu h (Or.inl (by decide))
  clear_value s_1
  exact pk_some h_2
theorem K_X0_countChances_B6 {v0 : Int32} {x1 : Int32} {x2 : Int32} {s : mG} (h : KV 0 2 v0 s) : pk (F_X0_countChances_B6 x1 x2 s) (se (fun τ => KV 0 2 v0 τ.2.2) (fun τ => KV 0 2 v0 τ)) := by
  unfold F_X0_countChances_B6
  refine pk_ite ?_ ?_
  · refine pk_b1r ?_
    exact (K_X0_countChances_L39 h)
  · refine pk_ite ?_ ?_
    · exact (K_X0_countChances_30 h)
    · exact (K_X0_countChances_30 h)
theorem K_X0_countChances_L6 {v0 : Int32} {x1 : Int32} {x2 : Int32} {s : mG} (h : KV 0 2 v0 s) : pk (F_X0_countChances_L6 x1 x2 s) (fun τ => KV 0 2 v0 τ) := by
  unfold F_X0_countChances_L6
  refine pk_whl (fun v => KV 0 2 v0 v.2.2) h (fun v hv => ?_)
  obtain ⟨y0, y1, y2⟩ := v
  exact K_X0_countChances_B6 hv
theorem K_X0_countChances {v0 : Int32} {a1 : Int32} {s : mG} (h : KV 0 2 v0 s) : pk (F_X0_countChances a1 s) (fun τ => KV 0 2 v0 τ) := by
  unfold F_X0_countChances
  refine pk_b1 (K_X0_weighAll h) (fun s_1 (h_2 : KV 0 2 v0 s_1) => ?_)
  exact (K_X0_countChances_L6 h_2)
theorem K_X0_likeliest_47 {v0 : Int32} {x1 : Int32} {x3 : Int32} {y0 : Int32} {s : mG} (h : KV 0 2 v0 s) : pk (F_X0_likeliest_47 x1 x3 y0 s) (se (fun τ => KV 0 2 v0 τ.2.2.2) (fun τ => KV 0 2 v0 τ.2)) := by
  unfold F_X0_likeliest_47
  exact pk_some h
theorem K_X0_likeliest_B9 {v0 : Int32} {x1 : Int32} {x2 : Int32} {x3 : Int32} {s : mG} (h : KV 0 2 v0 s) : pk (F_X0_likeliest_B9 x1 x2 x3 s) (se (fun τ => KV 0 2 v0 τ.2.2.2) (fun τ => KV 0 2 v0 τ.2)) := by
  unfold F_X0_likeliest_B9
  refine pk_ite ?_ ?_
  · refine pk_ite ?_ ?_
    · exact pk_some h
    · refine pk_b1 pk_top (fun _ _ => ?_)
      exact pk_some h
  · refine pk_b1 pk_top (fun _ _ => ?_)
    refine pk_b1 pk_top (fun _ _ => ?_)
    refine pk_ite ?_ ?_
    · exact (K_X0_likeliest_47 h)
    · exact (K_X0_likeliest_47 h)
theorem K_X0_likeliest_L9 {v0 : Int32} {x1 : Int32} {x2 : Int32} {x3 : Int32} {s : mG} (h : KV 0 2 v0 s) : pk (F_X0_likeliest_L9 x1 x2 x3 s) (fun τ => KV 0 2 v0 τ.2) := by
  unfold F_X0_likeliest_L9
  refine pk_whl (fun v => KV 0 2 v0 v.2.2.2) h (fun v hv => ?_)
  obtain ⟨y0, y1, y2, y3⟩ := v
  exact K_X0_likeliest_B9 hv
theorem K_X0_likeliest {v0 : Int32} {a1 : Int32} {s : mG} (h : KV 0 2 v0 s) : pk (F_X0_likeliest a1 s) (fun τ => KV 0 2 v0 τ.2) := by
  unfold F_X0_likeliest
  refine pk_b1 (K_X0_countChances h) (fun s_1 (h_2 : KV 0 2 v0 s_1) => ?_)
  exact (K_X0_likeliest_L9 h_2)
theorem K_X0_spanEdge_B28 {v0 : Int32} {x1 : Int32} {x2 : Int32} {x3 : Int32} {x4 : Int32} {x5 : Int32} {s : mG} (h : KV 0 2 v0 s) : pk (F_X0_spanEdge_B28 x1 x2 x3 x4 x5 s) (se (fun τ => KV 0 2 v0 τ.2.2.2.2.2) (se (fun τ => KV 0 2 v0 τ.2.2.2.2) (fun τ => KV 0 2 v0 τ.2))) := by
  unfold F_X0_spanEdge_B28
  refine pk_ite ?_ ?_
  · exact pk_some h
  · refine pk_b1 pk_top (fun _ _ => ?_)
    refine pk_ite ?_ ?_
    · exact pk_some h
    · refine pk_ite ?_ ?_
      · exact pk_some h
      · exact pk_some h
theorem K_X0_spanEdge_L28 {v0 : Int32} {x1 : Int32} {x2 : Int32} {x3 : Int32} {x4 : Int32} {x5 : Int32} {s : mG} (h : KV 0 2 v0 s) : pk (F_X0_spanEdge_L28 x1 x2 x3 x4 x5 s) (se (fun τ => KV 0 2 v0 τ.2.2.2.2) (fun τ => KV 0 2 v0 τ.2)) := by
  unfold F_X0_spanEdge_L28
  refine pk_whl (fun v => KV 0 2 v0 v.2.2.2.2.2) h (fun v hv => ?_)
  obtain ⟨y0, y1, y2, y3, y4, y5⟩ := v
  exact K_X0_spanEdge_B28 hv
theorem K_X0_spanEdge_B19 {v0 : Int32} {x1 : Int32} {x2 : Int32} {x3 : Int32} {x4 : Int32} {s : mG} (h : KV 0 2 v0 s) : pk (F_X0_spanEdge_B19 x1 x2 x3 x4 s) (se (fun τ => KV 0 2 v0 τ.2.2.2.2) (fun τ => KV 0 2 v0 τ.2)) := by
  unfold F_X0_spanEdge_B19
  refine pk_ite ?_ ?_
  · exact pk_some h
  · exact (K_X0_spanEdge_L28 h)
theorem K_X0_spanEdge_L19 {v0 : Int32} {x1 : Int32} {x2 : Int32} {x3 : Int32} {x4 : Int32} {s : mG} (h : KV 0 2 v0 s) : pk (F_X0_spanEdge_L19 x1 x2 x3 x4 s) (fun τ => KV 0 2 v0 τ.2) := by
  unfold F_X0_spanEdge_L19
  refine pk_whl (fun v => KV 0 2 v0 v.2.2.2.2) h (fun v hv => ?_)
  obtain ⟨y0, y1, y2, y3, y4⟩ := v
  exact K_X0_spanEdge_B19 hv
theorem K_X0_spanEdge {v0 : Int32} {a1 : Int32} {a2 : Int32} {s : mG} (h : KV 0 2 v0 s) : pk (F_X0_spanEdge a1 a2 s) (fun τ => KV 0 2 v0 τ.2) := by
  unfold F_X0_spanEdge
  refine pk_b1 (K_X0_countChances h) (fun s_1 (h_2 : KV 0 2 v0 s_1) => ?_)
  exact (K_X0_spanEdge_L19 h_2)
theorem K_X0_amongCounted {v0 : Int32} {a1 : Int32} {a2 : Int32} {s : mG} (h : KV 0 2 v0 s) : pk (F_X0_amongCounted a1 a2 s) (fun τ => KV 0 2 v0 τ.2) := by
  unfold F_X0_amongCounted
  refine pk_b1 (K_X0_countChances h) (fun s_1 (h_2 : KV 0 2 v0 s_1) => ?_)
  refine pk_b1 pk_top (fun _ _ => ?_)
  refine pk_b1 pk_top (fun _ _ => ?_)
  extract_lets +onlyGivenNames v_3
  clear_value v_3
  refine pk_b1 pk_top (fun _ _ => ?_)
  extract_lets +onlyGivenNames v_4
  clear_value v_4
  refine pk_ite ?_ ?_
  · exact pk_some h_2
  · refine pk_nn ?_
    extract_lets +onlyGivenNames v_5
    clear_value v_5
    exact pk_some h_2
theorem K_X0_emptyChance_55 {v0 : Int32} {x1 : Int32} {x2 : Int32} {x3 : Int32} {s : mG} (h : KV 0 2 v0 s) : pk (F_X0_emptyChance_55 x1 x2 x3 s) (se (fun τ => KV 0 2 v0 τ.2.2.2) (fun τ => KV 0 2 v0 τ.2)) := by
  unfold F_X0_emptyChance_55
  exact pk_some h
theorem K_X0_emptyChance_B9 {v0 : Int32} {x1 : Int32} {x2 : Int32} {x3 : Int32} {s : mG} (h : KV 0 2 v0 s) : pk (F_X0_emptyChance_B9 x1 x2 x3 s) (se (fun τ => KV 0 2 v0 τ.2.2.2) (fun τ => KV 0 2 v0 τ.2)) := by
  unfold F_X0_emptyChance_B9
  refine pk_ite ?_ ?_
  · exact pk_some h
  · refine pk_b1 pk_top (fun _ _ => ?_)
    refine pk_ite ?_ ?_
    · refine pk_b1 pk_top (fun _ _ => ?_)
      refine pk_b1 pk_top (fun _ _ => ?_)
      exact (K_X0_emptyChance_55 h)
    · exact (K_X0_emptyChance_55 h)
theorem K_X0_emptyChance_L9 {v0 : Int32} {x1 : Int32} {x2 : Int32} {x3 : Int32} {s : mG} (h : KV 0 2 v0 s) : pk (F_X0_emptyChance_L9 x1 x2 x3 s) (fun τ => KV 0 2 v0 τ.2) := by
  unfold F_X0_emptyChance_L9
  refine pk_whl (fun v => KV 0 2 v0 v.2.2.2) h (fun v hv => ?_)
  obtain ⟨y0, y1, y2, y3⟩ := v
  exact K_X0_emptyChance_B9 hv
theorem K_X0_emptyChance {v0 : Int32} {a1 : Int32} {s : mG} (h : KV 0 2 v0 s) : pk (F_X0_emptyChance a1 s) (fun τ => KV 0 2 v0 τ.2) := by
  unfold F_X0_emptyChance
  refine pk_b1 (K_X0_weighAll h) (fun s_1 (h_2 : KV 0 2 v0 s_1) => ?_)
  exact (K_X0_emptyChance_L9 h_2)
theorem K_X0_bestPair_90 {v0 : Int32} {x1 : Int32} {x2 : Int32} {x3 : Int32} {x4 : Int32} {x5 : Int32} {x6 : Int32} {s : mG} (h : KV 0 2 v0 s) : pk (F_X0_bestPair_90 x1 x2 x3 x4 x5 x6 s) (se (fun τ => KV 0 2 v0 τ.2.2.2.2.2.2) (se (fun τ => KV 0 2 v0 τ.2.2.2.2.2) (fun τ => KV 0 2 v0 τ.2))) := by
  unfold F_X0_bestPair_90
  exact pk_some h
theorem K_X0_bestPair_B35 {v0 : Int32} {x1 : Int32} {x2 : Int32} {x3 : Int32} {x4 : Int32} {x5 : Int32} {x6 : Int32} {s : mG} (h : KV 0 2 v0 s) : pk (F_X0_bestPair_B35 x1 x2 x3 x4 x5 x6 s) (se (fun τ => KV 0 2 v0 τ.2.2.2.2.2.2) (se (fun τ => KV 0 2 v0 τ.2.2.2.2.2) (fun τ => KV 0 2 v0 τ.2))) := by
  unfold F_X0_bestPair_B35
  refine pk_ite ?_ ?_
  · exact pk_some h
  · refine pk_b1 pk_top (fun _ _ => ?_)
    refine pk_b1 pk_top (fun _ _ => ?_)
    refine pk_b1 pk_top (fun _ _ => ?_)
    refine pk_ite ?_ ?_
    · exact (K_X0_bestPair_90 h)
    · exact (K_X0_bestPair_90 h)
theorem K_X0_bestPair_L35 {v0 : Int32} {x1 : Int32} {x2 : Int32} {x3 : Int32} {x4 : Int32} {x5 : Int32} {x6 : Int32} {s : mG} (h : KV 0 2 v0 s) : pk (F_X0_bestPair_L35 x1 x2 x3 x4 x5 x6 s) (se (fun τ => KV 0 2 v0 τ.2.2.2.2.2) (fun τ => KV 0 2 v0 τ.2)) := by
  unfold F_X0_bestPair_L35
  refine pk_whl (fun v => KV 0 2 v0 v.2.2.2.2.2.2) h (fun v hv => ?_)
  obtain ⟨y0, y1, y2, y3, y4, y5, y6⟩ := v
  exact K_X0_bestPair_B35 hv
theorem K_X0_bestPair_B14 {v0 : Int32} {x1 : Int32} {x2 : Int32} {x3 : Int32} {x4 : Int32} {x5 : Int32} {s : mG} (h : KV 0 2 v0 s) : pk (F_X0_bestPair_B14 x1 x2 x3 x4 x5 s) (se (fun τ => KV 0 2 v0 τ.2.2.2.2.2) (fun τ => KV 0 2 v0 τ.2)) := by
  unfold F_X0_bestPair_B14
  refine pk_ite ?_ ?_
  · refine pk_ite ?_ ?_
    · exact pk_some h
    · refine pk_ite ?_ ?_
      · exact pk_some h
      · exact pk_some h
  · exact (K_X0_bestPair_L35 h)
theorem K_X0_bestPair_L14 {v0 : Int32} {x1 : Int32} {x2 : Int32} {x3 : Int32} {x4 : Int32} {x5 : Int32} {s : mG} (h : KV 0 2 v0 s) : pk (F_X0_bestPair_L14 x1 x2 x3 x4 x5 s) (fun τ => KV 0 2 v0 τ.2) := by
  unfold F_X0_bestPair_L14
  refine pk_whl (fun v => KV 0 2 v0 v.2.2.2.2.2) h (fun v hv => ?_)
  obtain ⟨y0, y1, y2, y3, y4, y5⟩ := v
  exact K_X0_bestPair_B14 hv
theorem K_X0_bestPair {v0 : Int32} {a1 : Int32} {s : mG} (h : KV 0 2 v0 s) : pk (F_X0_bestPair a1 s) (fun τ => KV 0 2 v0 τ.2) := by
  unfold F_X0_bestPair
  refine pk_b1 (K_X0_weighAll h) (fun s_1 (h_2 : KV 0 2 v0 s_1) => ?_)
  exact (K_X0_bestPair_L14 h_2)
theorem K_X0_keylessOut_52 {v0 : Int32} {x1 : Int32} {x2 : Int32} {s : mG} (h : KV 0 2 v0 s) : pk (F_X0_keylessOut_52 x1 x2 s) (se (fun τ => KV 0 2 v0 τ.2.2) (fun τ => KV 0 2 v0 τ.2)) := by
  unfold F_X0_keylessOut_52
  exact pk_some h
theorem K_X0_keylessOut_B8 {v0 : Int32} {x1 : Int32} {x2 : Int32} {s : mG} (h : KV 0 2 v0 s) : pk (F_X0_keylessOut_B8 x1 x2 s) (se (fun τ => KV 0 2 v0 τ.2.2) (fun τ => KV 0 2 v0 τ.2)) := by
  unfold F_X0_keylessOut_B8
  refine pk_ite ?_ ?_
  · exact pk_some h
  · refine pk_b1 pk_top (fun _ _ => ?_)
    refine pk_ite ?_ ?_
    · refine pk_b1 pk_top (fun _ _ => ?_)
      extract_lets +onlyGivenNames v_1
      clear_value v_1
      exact (K_X0_keylessOut_52 h)
    · exact (K_X0_keylessOut_52 h)
theorem K_X0_keylessOut_L8 {v0 : Int32} {x1 : Int32} {x2 : Int32} {s : mG} (h : KV 0 2 v0 s) : pk (F_X0_keylessOut_L8 x1 x2 s) (fun τ => KV 0 2 v0 τ.2) := by
  unfold F_X0_keylessOut_L8
  refine pk_whl (fun v => KV 0 2 v0 v.2.2) h (fun v hv => ?_)
  obtain ⟨y0, y1, y2⟩ := v
  exact K_X0_keylessOut_B8 hv
theorem K_X0_keylessOut {v0 : Int32} {s : mG} (h : KV 0 2 v0 s) : pk (F_X0_keylessOut s) (fun τ => KV 0 2 v0 τ.2) := by
  unfold F_X0_keylessOut
  refine pk_b1 (K_X0_weighAll h) (fun s_1 (h_2 : KV 0 2 v0 s_1) => ?_)
  exact (K_X0_keylessOut_L8 h_2)
theorem K_X1_bestVisit_108 {v0 : Int32} {x3 : Int32} {x4 : Int32} {x5 : Int32} {x6 : Int32} {x7 : Int32} {s : mG} (h : KV 0 2 v0 s) : pk (F_X1_bestVisit_108 x3 x4 x5 x6 x7 s) (se (fun τ => KV 0 2 v0 τ.2.2.2.2.2) (fun τ => KV 0 2 v0 τ.2)) := by
  unfold F_X1_bestVisit_108
  exact pk_some h
theorem K_X1_bestVisit_B20 {v0 : Int32} {x3 : Int32} {x4 : Int32} {x5 : Int32} {x6 : Int32} {x7 : Int32} {s : mG} (h : KV 0 2 v0 s) : pk (F_X1_bestVisit_B20 x3 x4 x5 x6 x7 s) (se (fun τ => KV 0 2 v0 τ.2.2.2.2.2) (fun τ => KV 0 2 v0 τ.2)) := by
  unfold F_X1_bestVisit_B20
  refine pk_ite ?_ ?_
  · refine pk_ite ?_ ?_
    · exact pk_some h
    · exact pk_some h
  · refine pk_b1 (K_X3_supposeHour h) (fun s_1 (h_2 : KV 0 2 v0 s_1) => ?_)
    refine pk_b2 (K_X3_tells h_2) (fun _ s_3 (h_4 : KV 0 2 v0 s_3) => ?_)
    extract_lets +onlyGivenNames v_5
    clear_value v_5
    refine pk_b2 (K_X3_tells h_4) (fun _ s_6 (h_7 : KV 0 2 v0 s_6) => ?_)
    extract_lets +onlyGivenNames v_8
    clear_value v_8
    refine pk_ite ?_ ?_
    · exact (K_X1_bestVisit_108 h_7)
    · exact (K_X1_bestVisit_108 h_7)
theorem K_X1_bestVisit_L20 {v0 : Int32} {x3 : Int32} {x4 : Int32} {x5 : Int32} {x6 : Int32} {x7 : Int32} {s : mG} (h : KV 0 2 v0 s) : pk (F_X1_bestVisit_L20 x3 x4 x5 x6 x7 s) (fun τ => KV 0 2 v0 τ.2) := by
  unfold F_X1_bestVisit_L20
  refine pk_whl (fun v => KV 0 2 v0 v.2.2.2.2.2) h (fun v hv => ?_)
  obtain ⟨y0, y1, y2, y3, y4, y5⟩ := v
  exact K_X1_bestVisit_B20 hv
theorem K_X1_bestVisit {v0 : Int32} {a1 : Int32} {a2 : Int32} {a3 : Int32} {s : mG} (h : KV 0 2 v0 s) : pk (F_X1_bestVisit a1 a2 a3 s) (fun τ => KV 0 2 v0 τ.2) := by
  unfold F_X1_bestVisit
  refine pk_b1 (K_X3_face h) (fun s_1 (h_2 : KV 0 2 v0 s_1) => ?_)
  exact (K_X1_bestVisit_L20 h_2)
theorem K_X3_suppose {v0 : Int32} {a1 : Int32} {a2 : Int32} {s : mG} (h : KV 0 2 v0 s) : pk (F_X3_suppose a1 a2 s) (fun τ => KV 0 2 v0 τ) := by
  unfold F_X3_suppose
  refine pk_b1 (K_X11_put (by decide) h) (fun s_1 (h_2 : KV 0 2 v0 s_1) => ?_)
  exact pk_some h_2
theorem K_X1_stillOut_B14 {v0 : Int32} {x1 : Int32} {x2 : Int32} {x3 : Int32} {x4 : Int32} {s : mG} (h : KV 0 2 v0 s) : pk (F_X1_stillOut_B14 x1 x2 x3 x4 s) (se (fun τ => KV 0 2 v0 τ.2.2.2.2) (fun τ => KV 0 2 v0 τ.2)) := by
  unfold F_X1_stillOut_B14
  refine pk_ite ?_ ?_
  · exact pk_some h
  · refine pk_b1 (K_X3_supposeHour h) (fun s_1 (h_2 : KV 0 2 v0 s_1) => ?_)
    refine pk_b1 pk_top (fun _ _ => ?_)
    refine pk_b1 (K_X3_suppose h_2) (fun s_3 (h_4 : KV 0 2 v0 s_3) => ?_)
    refine pk_b2 (K_X3_tells h_4) (fun _ s_5 (h_6 : KV 0 2 v0 s_5) => ?_)
    extract_lets +onlyGivenNames v_7
    clear_value v_7
    exact pk_some h_6
theorem K_X1_stillOut_L14 {v0 : Int32} {x1 : Int32} {x2 : Int32} {x3 : Int32} {x4 : Int32} {s : mG} (h : KV 0 2 v0 s) : pk (F_X1_stillOut_L14 x1 x2 x3 x4 s) (fun τ => KV 0 2 v0 τ.2) := by
  unfold F_X1_stillOut_L14
  refine pk_whl (fun v => KV 0 2 v0 v.2.2.2.2) h (fun v hv => ?_)
  obtain ⟨y0, y1, y2, y3, y4⟩ := v
  exact K_X1_stillOut_B14 hv
theorem K_X1_stillOut {v0 : Int32} {a1 : Int32} {a2 : Int32} {s : mG} (h : KV 0 2 v0 s) : pk (F_X1_stillOut a1 a2 s) (fun τ => KV 0 2 v0 τ.2) := by
  unfold F_X1_stillOut
  refine pk_b1 (K_X3_face h) (fun s_1 (h_2 : KV 0 2 v0 s_1) => ?_)
  exact (K_X1_stillOut_L14 h_2)
theorem K_X1_movesAt_56 {v0 : Int32} {x1 : Int32} {x3 : Int32} {y0 : Int32} {y2 : Int32} {s : mG} (h : KV 0 2 v0 s) : pk (F_X1_movesAt_56 x1 x3 y0 y2 s) (se (fun τ => KV 0 2 v0 τ.2.2.2) (fun τ => KV 0 2 v0 τ.2)) := by
  unfold F_X1_movesAt_56
  refine pk_b2 (K_X3_tells h) (fun _ s_1 (h_2 : KV 0 2 v0 s_1) => ?_)
  exact pk_some h_2
theorem K_X1_movesAt_B4 {v0 : Int32} {x1 : Int32} {x2 : Int32} {x3 : Int32} {s : mG} (h : KV 0 2 v0 s) : pk (F_X1_movesAt_B4 x1 x2 x3 s) (se (fun τ => KV 0 2 v0 τ.2.2.2) (fun τ => KV 0 2 v0 τ.2)) := by
  unfold F_X1_movesAt_B4
  refine pk_ite ?_ ?_
  · exact pk_some h
  · refine pk_b1 (K_X3_face h) (fun s_1 (h_2 : KV 0 2 v0 s_1) => ?_)
    refine pk_b1 (K_X3_suppose h_2) (fun s_3 (h_4 : KV 0 2 v0 s_3) => ?_)
    refine pk_b1 pk_top (fun _ _ => ?_)
    refine pk_ite ?_ ?_
    · exact (K_X1_movesAt_56 h_4)
    · exact (K_X1_movesAt_56 h_4)
theorem K_X1_movesAt_L4 {v0 : Int32} {x1 : Int32} {x2 : Int32} {x3 : Int32} {s : mG} (h : KV 0 2 v0 s) : pk (F_X1_movesAt_L4 x1 x2 x3 s) (fun τ => KV 0 2 v0 τ.2) := by
  unfold F_X1_movesAt_L4
  refine pk_whl (fun v => KV 0 2 v0 v.2.2.2) h (fun v hv => ?_)
  obtain ⟨y0, y1, y2, y3⟩ := v
  exact K_X1_movesAt_B4 hv
theorem K_X1_movesAt {v0 : Int32} {a1 : Int32} {s : mG} (h : KV 0 2 v0 s) : pk (F_X1_movesAt a1 s) (fun τ => KV 0 2 v0 τ.2) := by
  unfold F_X1_movesAt
  exact (K_X1_movesAt_L4 h)
theorem K_X1_movesNow {v0 : Int32} {s : mG} (h : KV 0 2 v0 s) : pk (F_X1_movesNow s) (fun τ => KV 0 2 v0 τ.2) := by
  unfold F_X1_movesNow
  refine pk_b2 (K_X1_movesAt h) (fun _ s_1 (h_2 : KV 0 2 v0 s_1) => ?_)
  exact pk_some h_2
theorem K_X1_busiestClock_34 {v0 : Int32} {x1 : Int32} {x2 : Int32} {x3 : Int32} {s : mG} (h : KV 0 2 v0 s) : pk (F_X1_busiestClock_34 x1 x2 x3 s) (se (fun τ => KV 0 2 v0 τ.2.2.2) (fun τ => KV 0 2 v0 τ.2)) := by
  unfold F_X1_busiestClock_34
  exact pk_some h
theorem K_X1_busiestClock_B10 {v0 : Int32} {x1 : Int32} {x2 : Int32} {x3 : Int32} {s : mG} (h : KV 0 2 v0 s) : pk (F_X1_busiestClock_B10 x1 x2 x3 s) (se (fun τ => KV 0 2 v0 τ.2.2.2) (fun τ => KV 0 2 v0 τ.2)) := by
  unfold F_X1_busiestClock_B10
  refine pk_ite ?_ ?_
  · exact pk_some h
  · refine pk_b2 (K_X1_movesAt h) (fun _ s_1 (h_2 : KV 0 2 v0 s_1) => ?_)
    refine pk_ite ?_ ?_
    · exact (K_X1_busiestClock_34 h_2)
    · exact (K_X1_busiestClock_34 h_2)
theorem K_X1_busiestClock_L10 {v0 : Int32} {x1 : Int32} {x2 : Int32} {x3 : Int32} {s : mG} (h : KV 0 2 v0 s) : pk (F_X1_busiestClock_L10 x1 x2 x3 s) (fun τ => KV 0 2 v0 τ.2) := by
  unfold F_X1_busiestClock_L10
  refine pk_whl (fun v => KV 0 2 v0 v.2.2.2) h (fun v hv => ?_)
  obtain ⟨y0, y1, y2, y3⟩ := v
  exact K_X1_busiestClock_B10 hv
theorem K_X1_busiestClock {v0 : Int32} {s : mG} (h : KV 0 2 v0 s) : pk (F_X1_busiestClock s) (fun τ => KV 0 2 v0 τ.2) := by
  unfold F_X1_busiestClock
  refine pk_b2 (K_X1_movesAt h) (fun _ s_1 (h_2 : KV 0 2 v0 s_1) => ?_)
  exact (K_X1_busiestClock_L10 h_2)
theorem K_X1_costOfTag_B6 {v0 : Int32} {x1 : Int32} {x2 : Int32} {x3 : Int32} {x4 : Int32} {x5 : Int32} {s : mG} (h : KV 0 2 v0 s) : pk (F_X1_costOfTag_B6 x1 x2 x3 x4 x5 s) (se (fun τ => KV 0 2 v0 τ.2.2.2.2.2) (fun τ => KV 0 2 v0 τ.2)) := by
  unfold F_X1_costOfTag_B6
  refine pk_ite ?_ ?_
  · extract_lets +onlyGivenNames v_1
    clear_value v_1
    exact pk_some h
  · refine pk_b1 (K_X3_face h) (fun s_2 (h_3 : KV 0 2 v0 s_2) => ?_)
    refine pk_b1 (K_X3_suppose h_3) (fun s_4 (h_5 : KV 0 2 v0 s_4) => ?_)
    refine pk_b2 (K_X3_tells h_5) (fun _ s_6 (h_7 : KV 0 2 v0 s_6) => ?_)
    exact pk_some h_7
theorem K_X1_costOfTag_L6 {v0 : Int32} {x1 : Int32} {x2 : Int32} {x3 : Int32} {x4 : Int32} {x5 : Int32} {s : mG} (h : KV 0 2 v0 s) : pk (F_X1_costOfTag_L6 x1 x2 x3 x4 x5 s) (fun τ => KV 0 2 v0 τ.2) := by
  unfold F_X1_costOfTag_L6
  refine pk_whl (fun v => KV 0 2 v0 v.2.2.2.2.2) h (fun v hv => ?_)
  obtain ⟨y0, y1, y2, y3, y4, y5⟩ := v
  exact K_X1_costOfTag_B6 hv
theorem K_X1_costOfTag {v0 : Int32} {a1 : Int32} {a2 : Int32} {a3 : Int32} {s : mG} (h : KV 0 2 v0 s) : pk (F_X1_costOfTag a1 a2 a3 s) (fun τ => KV 0 2 v0 τ.2) := by
  unfold F_X1_costOfTag
  exact (K_X1_costOfTag_L6 h)
theorem K_X1_bestTag_45 {v0 : Int32} {x1 : Int32} {x2 : Int32} {x3 : Int32} {x4 : Int32} {x5 : Int32} {s : mG} (h : KV 0 2 v0 s) : pk (F_X1_bestTag_45 x1 x2 x3 x4 x5 s) (se (fun τ => KV 0 2 v0 τ.2.2.2.2.2) (fun τ => KV 0 2 v0 τ.2)) := by
  unfold F_X1_bestTag_45
  exact pk_some h
theorem K_X1_bestTag_B14 {v0 : Int32} {x1 : Int32} {x2 : Int32} {x3 : Int32} {x4 : Int32} {x5 : Int32} {s : mG} (h : KV 0 2 v0 s) : pk (F_X1_bestTag_B14 x1 x2 x3 x4 x5 s) (se (fun τ => KV 0 2 v0 τ.2.2.2.2.2) (fun τ => KV 0 2 v0 τ.2)) := by
  unfold F_X1_bestTag_B14
  refine pk_ite ?_ ?_
  · exact pk_some h
  · refine pk_b2 (K_X1_costOfTag h) (fun _ s_1 (h_2 : KV 0 2 v0 s_1) => ?_)
    refine pk_ite ?_ ?_
    · exact (K_X1_bestTag_45 h_2)
    · exact (K_X1_bestTag_45 h_2)
theorem K_X1_bestTag_L14 {v0 : Int32} {x1 : Int32} {x2 : Int32} {x3 : Int32} {x4 : Int32} {x5 : Int32} {s : mG} (h : KV 0 2 v0 s) : pk (F_X1_bestTag_L14 x1 x2 x3 x4 x5 s) (fun τ => KV 0 2 v0 τ.2) := by
  unfold F_X1_bestTag_L14
  refine pk_whl (fun v => KV 0 2 v0 v.2.2.2.2.2) h (fun v hv => ?_)
  obtain ⟨y0, y1, y2, y3, y4, y5⟩ := v
  exact K_X1_bestTag_B14 hv
theorem K_X1_bestTag {v0 : Int32} {a1 : Int32} {a2 : Int32} {s : mG} (h : KV 0 2 v0 s) : pk (F_X1_bestTag a1 a2 s) (fun τ => KV 0 2 v0 τ.2) := by
  unfold F_X1_bestTag
  refine pk_b2 (K_X1_costOfTag h) (fun _ s_1 (h_2 : KV 0 2 v0 s_1) => ?_)
  exact (K_X1_bestTag_L14 h_2)
theorem K_X1_likeliestToCarry_49 {v0 : Int32} {x1 : Int32} {x2 : Int32} {x3 : Int32} {s : mG} (h : KV 0 2 v0 s) : pk (F_X1_likeliestToCarry_49 x1 x2 x3 s) (se (fun τ => KV 0 2 v0 τ.2.2.2) (fun τ => KV 0 2 v0 τ.2)) := by
  unfold F_X1_likeliestToCarry_49
  exact pk_some h
theorem K_X1_likeliestToCarry_B6 {v0 : Int32} {x1 : Int32} {x2 : Int32} {x3 : Int32} {s : mG} (h : KV 0 2 v0 s) : pk (F_X1_likeliestToCarry_B6 x1 x2 x3 s) (se (fun τ => KV 0 2 v0 τ.2.2.2) (fun τ => KV 0 2 v0 τ.2)) := by
  unfold F_X1_likeliestToCarry_B6
  refine pk_ite ?_ ?_
  · exact pk_some h
  · refine pk_b1 (K_X3_face h) (fun s_1 (h_2 : KV 0 2 v0 s_1) => ?_)
    refine pk_b2 (K_X3_tells h_2) (fun _ s_3 (h_4 : KV 0 2 v0 s_3) => ?_)
    refine pk_ite ?_ ?_
    · exact (K_X1_likeliestToCarry_49 h_4)
    · exact (K_X1_likeliestToCarry_49 h_4)
theorem K_X1_likeliestToCarry_L6 {v0 : Int32} {x1 : Int32} {x2 : Int32} {x3 : Int32} {s : mG} (h : KV 0 2 v0 s) : pk (F_X1_likeliestToCarry_L6 x1 x2 x3 s) (fun τ => KV 0 2 v0 τ.2) := by
  unfold F_X1_likeliestToCarry_L6
  refine pk_whl (fun v => KV 0 2 v0 v.2.2.2) h (fun v hv => ?_)
  obtain ⟨y0, y1, y2, y3⟩ := v
  exact K_X1_likeliestToCarry_B6 hv
theorem K_X1_likeliestToCarry {v0 : Int32} {s : mG} (h : KV 0 2 v0 s) : pk (F_X1_likeliestToCarry s) (fun τ => KV 0 2 v0 τ.2) := by
  unfold F_X1_likeliestToCarry
  exact (K_X1_likeliestToCarry_L6 h)
theorem K_X10_put_39 {v0 : Int32} {t : Nat} {x3 : Int32} {x4 : Int32} {y0 : Int32} {s : mG} (h : KV 0 2 v0 s) : pk (F_X10_put_39 t x3 x4 y0 s) (fun τ => KV 0 2 v0 τ) := by
  unfold F_X10_put_39
  refine pk_ite ?_ ?_
  · exact pk_some h
  · refine pk_ite ?_ ?_
    · exact pk_some h
    · refine pk_ite ?_ ?_
      · exact pk_some h
      · refine pk_nn ?_
        extract_lets +onlyGivenNames s_1
        have h_2 : KV 0 2 v0 s_1 := KV_mu h (Or.inl (by omega))
        clear_value s_1
        exact pk_some h_2
theorem K_X10_put_38 {v0 : Int32} {t : Nat} {x3 : Int32} {x4 : Int32} {s : mG} (h : KV 0 2 v0 s) : pk (F_X10_put_38 t x3 x4 s) (fun τ => KV 0 2 v0 τ) := by
  unfold F_X10_put_38
  exact (K_X10_put_39 h)
theorem K_X10_put {v0 : Int32} {t : Nat} {a1 : Int32} {a2 : Int32} {a3 : Int32} {s : mG} (h : KV 0 2 v0 s) : pk (F_X10_put t a1 a2 a3 s) (fun τ => KV 0 2 v0 τ) := by
  unfold F_X10_put
  extract_lets +onlyGivenNames v_1
  clear_value v_1
  refine pk_ite ?_ ?_
  · exact (K_X10_put_38 h)
  · refine pk_ite ?_ ?_
    · exact (K_X10_put_38 h)
    · refine pk_ite ?_ ?_
      · exact (K_X10_put_38 h)
      · refine pk_ite ?_ ?_
        · exact (K_X10_put_38 h)
        · exact (K_X10_put_39 h)
theorem K_X1_countGoings_92 {v0 : Int32} {x1 : Int32} {x2 : Int32} {x3 : Int32} {x4 : Int32} {s : mG} (h : KV 0 2 v0 s) : pk (F_X1_countGoings_92 x1 x2 x3 x4 s) (se (fun τ => KV 0 2 v0 τ.2.2.2.2) (fun τ => KV 0 2 v0 τ)) := by
  unfold F_X1_countGoings_92
  exact pk_some h
theorem K_X1_countGoings_B7 {v0 : Int32} {x1 : Int32} {x2 : Int32} {x3 : Int32} {x4 : Int32} {s : mG} (h : KV 0 2 v0 s) : pk (F_X1_countGoings_B7 x1 x2 x3 x4 s) (se (fun τ => KV 0 2 v0 τ.2.2.2.2) (fun τ => KV 0 2 v0 τ)) := by
  unfold F_X1_countGoings_B7
  refine pk_ite ?_ ?_
  · refine pk_b1 (K_X10_put h) (fun s_1 (h_2 : KV 0 2 v0 s_1) => ?_)
    refine pk_b1 (K_X10_put h_2) (fun s_3 (h_4 : KV 0 2 v0 s_3) => ?_)
    exact pk_some h_4
  · refine pk_b1 pk_top (fun _ _ => ?_)
    refine pk_ite ?_ ?_
    · refine pk_b1 (K_X3_face h) (fun s_5 (h_6 : KV 0 2 v0 s_5) => ?_)
      refine pk_b1 (K_X3_suppose h_6) (fun s_7 (h_8 : KV 0 2 v0 s_7) => ?_)
      refine pk_b2 (K_X3_tells h_8) (fun _ s_9 (h_10 : KV 0 2 v0 s_9) => ?_)
      refine pk_b2 (K_X3_tells h_10) (fun _ s_11 (h_12 : KV 0 2 v0 s_11) => ?_)
      extract_lets +onlyGivenNames v_13
      clear_value v_13
      exact (K_X1_countGoings_92 h_12)
    · exact (K_X1_countGoings_92 h)
theorem K_X1_countGoings_L7 {v0 : Int32} {x1 : Int32} {x2 : Int32} {x3 : Int32} {x4 : Int32} {s : mG} (h : KV 0 2 v0 s) : pk (F_X1_countGoings_L7 x1 x2 x3 x4 s) (fun τ => KV 0 2 v0 τ) := by
  unfold F_X1_countGoings_L7
  refine pk_whl (fun v => KV 0 2 v0 v.2.2.2.2) h (fun v hv => ?_)
  obtain ⟨y0, y1, y2, y3, y4⟩ := v
  exact K_X1_countGoings_B7 hv
theorem K_X1_countGoings {v0 : Int32} {a1 : Int32} {s : mG} (h : KV 0 2 v0 s) : pk (F_X1_countGoings a1 s) (fun τ => KV 0 2 v0 τ) := by
  unfold F_X1_countGoings
  exact (K_X1_countGoings_L7 h)
theorem K_X10_add {v0 : Int32} {t : Nat} {s : mG} (h : KV 0 2 v0 s) : pk (F_X10_add t s) (fun τ => KV 0 2 v0 τ.2) := by
  unfold F_X10_add
  refine pk_b1 pk_top (fun _ _ => ?_)
  refine pk_ite ?_ ?_
  · extract_lets +onlyGivenNames s_1
    have h_2 : KV 0 2 v0 s_1 := KV_mu h (Or.inr (by decide))
    clear_value s_1
    exact pk_some h_2
  · exact pk_some h
theorem K_X10_clear {v0 : Int32} {t : Nat} {s : mG} (h : KV 0 2 v0 s) : pk (F_X10_clear t s) (fun τ => KV 0 2 v0 τ) := by
  unfold F_X10_clear
  extract_lets +onlyGivenNames s_1
  have h_2 : KV 0 2 v0 s_1 := KV_mu h (Or.inr (by decide))
  clear_value s_1
  exact pk_some h_2
theorem K_X1_plan_B58 {v0 : Int32} {x1 : Int32} {x2 : Int32} {x3 : Int32} {s : mG} (h : KV 0 2 v0 s) : pk (F_X1_plan_B58 x1 x2 x3 s) (se (fun τ => KV 0 2 v0 τ.2.2.2) (se (fun τ => KV 0 2 v0 τ.2.2) (fun τ => KV 0 2 v0 τ))) := by
  unfold F_X1_plan_B58
  refine pk_ite ?_ ?_
  · exact pk_some h
  · refine pk_b1 pk_top (fun _ _ => ?_)
    refine pk_b1 pk_top (fun _ _ => ?_)
    refine pk_b1 pk_top (fun _ _ => ?_)
    refine pk_b1 (K_X10_put h) (fun s_1 (h_2 : KV 0 2 v0 s_1) => ?_)
    exact pk_some h_2
theorem K_X1_plan_L58 {v0 : Int32} {x1 : Int32} {x2 : Int32} {x3 : Int32} {s : mG} (h : KV 0 2 v0 s) : pk (F_X1_plan_L58 x1 x2 x3 s) (se (fun τ => KV 0 2 v0 τ.2.2) (fun τ => KV 0 2 v0 τ)) := by
  unfold F_X1_plan_L58
  refine pk_whl (fun v => KV 0 2 v0 v.2.2.2) h (fun v hv => ?_)
  obtain ⟨y0, y1, y2, y3⟩ := v
  exact K_X1_plan_B58 hv
theorem K_X1_plan_B52 {v0 : Int32} {x1 : Int32} {x2 : Int32} {s : mG} (h : KV 0 2 v0 s) : pk (F_X1_plan_B52 x1 x2 s) (se (fun τ => KV 0 2 v0 τ.2.2) (fun τ => KV 0 2 v0 τ)) := by
  unfold F_X1_plan_B52
  refine pk_ite ?_ ?_
  · exact pk_some h
  · exact (K_X1_plan_L58 h)
theorem K_X1_plan_L52 {v0 : Int32} {x1 : Int32} {x2 : Int32} {s : mG} (h : KV 0 2 v0 s) : pk (F_X1_plan_L52 x1 x2 s) (fun τ => KV 0 2 v0 τ) := by
  unfold F_X1_plan_L52
  refine pk_whl (fun v => KV 0 2 v0 v.2.2) h (fun v hv => ?_)
  obtain ⟨y0, y1, y2⟩ := v
  exact K_X1_plan_B52 hv
theorem K_X1_plan_B16 {v0 : Int32} {x1 : Int32} {x2 : Int32} {s : mG} (h : KV 0 2 v0 s) : pk (F_X1_plan_B16 x1 x2 s) (se (fun τ => KV 0 2 v0 τ.2.2) (fun τ => KV 0 2 v0 τ)) := by
  unfold F_X1_plan_B16
  refine pk_ite ?_ ?_
  · refine pk_b1r ?_
    exact (K_X1_plan_L52 h)
  · refine pk_b2 (K_X10_add h) (fun _ s_1 (h_2 : KV 0 2 v0 s_1) => ?_)
    refine pk_b2 (K_X10_add h_2) (fun _ s_3 (h_4 : KV 0 2 v0 s_3) => ?_)
    refine pk_b1 (K_X1_countGoings h_4) (fun s_5 (h_6 : KV 0 2 v0 s_5) => ?_)
    exact pk_some h_6
theorem K_X1_plan_L16 {v0 : Int32} {x1 : Int32} {x2 : Int32} {s : mG} (h : KV 0 2 v0 s) : pk (F_X1_plan_L16 x1 x2 s) (fun τ => KV 0 2 v0 τ) := by
  unfold F_X1_plan_L16
  refine pk_whl (fun v => KV 0 2 v0 v.2.2) h (fun v hv => ?_)
  obtain ⟨y0, y1, y2⟩ := v
  exact K_X1_plan_B16 hv
theorem K_X1_plan {v0 : Int32} {a1 : Int32} {s : mG} (h : KV 0 2 v0 s) : pk (F_X1_plan a1 s) (fun τ => KV 0 2 v0 τ) := by
  unfold F_X1_plan
  refine pk_b1 (K_X10_clear h) (fun s_1 (h_2 : KV 0 2 v0 s_1) => ?_)
  refine pk_b1 (K_X10_clear h_2) (fun s_3 (h_4 : KV 0 2 v0 s_3) => ?_)
  exact (K_X1_plan_L16 h_4)
theorem K_X10_copyFrom_B27 {v0 : Int32} {t : Nat} {a1 : Nat} {x2 : Int32} {x3 : Int32} {s : mG} (h : KV 0 2 v0 s) : pk (F_X10_copyFrom_B27 t a1 x2 x3 s) (se (fun τ => KV 0 2 v0 τ.2.2) (fun τ => KV 0 2 v0 τ)) := by
  unfold F_X10_copyFrom_B27
  refine pk_ite ?_ ?_
  · exact pk_some h
  · refine pk_ite ?_ ?_
    · exact pk_some h
    · refine pk_ite ?_ ?_
      · exact pk_some h
      · refine pk_nn ?_
        refine pk_nn ?_
        extract_lets +onlyGivenNames s_1
        have h_2 : KV 0 2 v0 s_1 := KV_mu h (Or.inl (by omega))
        clear_value s_1
        exact pk_some h_2
theorem K_X10_copyFrom_L27 {v0 : Int32} {t : Nat} {a1 : Nat} {x2 : Int32} {x3 : Int32} {s : mG} (h : KV 0 2 v0 s) : pk (F_X10_copyFrom_L27 t a1 x2 x3 s) (fun τ => KV 0 2 v0 τ) := by
  unfold F_X10_copyFrom_L27
  refine pk_whl (fun v => KV 0 2 v0 v.2.2) h (fun v hv => ?_)
  obtain ⟨y0, y1, y2⟩ := v
  exact K_X10_copyFrom_B27 hv
theorem K_X10_copyFrom {v0 : Int32} {t : Nat} {a1 : Nat} {s : mG} (h : KV 0 2 v0 s) : pk (F_X10_copyFrom t a1 s) (fun τ => KV 0 2 v0 τ) := by
  unfold F_X10_copyFrom
  extract_lets +onlyGivenNames s_1
  have h_2 : KV 0 2 v0 s_1 := KV_mu h (Or.inr (by decide))
  clear_value s_1
  extract_lets +onlyGivenNames v_3
  clear_value v_3
  exact (K_X10_copyFrom_L27 h_2)
theorem K_X2_copyFrom {v0 : Int32} {hh : Nat} {a1 : Nat} {s : mG} (h : KV 0 2 v0 s) : pk (F_X2_copyFrom hh a1 s) (fun τ => KV 0 2 v0 τ) := by
  unfold F_X2_copyFrom
  refine pk_b1 (K_X10_copyFrom h) (fun s_1 (h_2 : KV 0 2 v0 s_1) => ?_)
  refine pk_b1 (K_X10_copyFrom h_2) (fun s_3 (h_4 : KV 0 2 v0 s_3) => ?_)
  refine pk_b1 (K_X10_copyFrom h_4) (fun s_5 (h_6 : KV 0 2 v0 s_5) => ?_)
  refine pk_b1 (K_X10_copyFrom h_6) (fun s_7 (h_8 : KV 0 2 v0 s_7) => ?_)
  refine pk_b1 (K_X10_copyFrom h_8) (fun s_9 (h_10 : KV 0 2 v0 s_9) => ?_)
  refine pk_b1 (K_X10_copyFrom h_10) (fun s_11 (h_12 : KV 0 2 v0 s_11) => ?_)
  refine pk_b1 (K_X10_copyFrom h_12) (fun s_13 (h_14 : KV 0 2 v0 s_13) => ?_)
  refine pk_b1 (K_X10_copyFrom h_14) (fun s_15 (h_16 : KV 0 2 v0 s_15) => ?_)
  extract_lets +onlyGivenNames s_17
  have h_18 : KV 0 2 v0 s_17 := KV_mu h_16 (Or.inr (by decide))
  clear_value s_17
  extract_lets +onlyGivenNames s_19
  have h_20 : KV 0 2 v0 s_19 := KV_mu h_18 (Or.inr (by decide))
  clear_value s_19
  extract_lets +onlyGivenNames s_21
  have h_22 : KV 0 2 v0 s_21 := KV_mu h_20 (Or.inr (by decide))
  clear_value s_21
  extract_lets +onlyGivenNames s_23
  have h_24 : KV 0 2 v0 s_23 := KV_mu h_22 (Or.inr (by decide))
  clear_value s_23
  exact pk_some h_24
theorem K_X2_forgetSeenOf_B2 {v0 : Int32} {hh : Nat} {x1 : Int32} {x2 : Int32} {s : mG} (h : KV 0 2 v0 s) : pk (F_X2_forgetSeenOf_B2 hh x1 x2 s) (se (fun τ => KV 0 2 v0 τ.2.2) (fun τ => KV 0 2 v0 τ)) := by
  unfold F_X2_forgetSeenOf_B2
  refine pk_ite ?_ ?_
  · exact pk_some h
  · refine pk_b1 (K_X10_put h) (fun s_1 (h_2 : KV 0 2 v0 s_1) => ?_)
    exact pk_some h_2
theorem K_X2_forgetSeenOf_L2 {v0 : Int32} {hh : Nat} {x1 : Int32} {x2 : Int32} {s : mG} (h : KV 0 2 v0 s) : pk (F_X2_forgetSeenOf_L2 hh x1 x2 s) (fun τ => KV 0 2 v0 τ) := by
  unfold F_X2_forgetSeenOf_L2
  refine pk_whl (fun v => KV 0 2 v0 v.2.2) h (fun v hv => ?_)
  obtain ⟨y0, y1, y2⟩ := v
  exact K_X2_forgetSeenOf_B2 hv
theorem K_X2_forgetSeenOf {v0 : Int32} {hh : Nat} {a1 : Int32} {s : mG} (h : KV 0 2 v0 s) : pk (F_X2_forgetSeenOf hh a1 s) (fun τ => KV 0 2 v0 τ) := by
  unfold F_X2_forgetSeenOf
  exact (K_X2_forgetSeenOf_L2 h)
theorem K_X2_addGuest {v0 : Int32} {hh : Nat} {a1 : Int32} {a2 : Int32} {s : mG} (h : KV 0 2 v0 s) : pk (F_X2_addGuest hh a1 a2 s) (fun τ => KV 0 2 v0 τ.2) := by
  unfold F_X2_addGuest
  refine pk_b2 (K_X10_add h) (fun _ s_1 (h_2 : KV 0 2 v0 s_1) => ?_)
  refine pk_b1 (K_X10_put h_2) (fun s_3 (h_4 : KV 0 2 v0 s_3) => ?_)
  refine pk_b1 (K_X10_put h_4) (fun s_5 (h_6 : KV 0 2 v0 s_5) => ?_)
  refine pk_b1 (K_X10_put h_6) (fun s_7 (h_8 : KV 0 2 v0 s_7) => ?_)
  refine pk_b1 (K_X10_put h_8) (fun s_9 (h_10 : KV 0 2 v0 s_9) => ?_)
  refine pk_b1 (K_X10_put h_10) (fun s_11 (h_12 : KV 0 2 v0 s_11) => ?_)
  refine pk_b1 (K_X2_forgetSeenOf h_12) (fun s_13 (h_14 : KV 0 2 v0 s_13) => ?_)
  exact pk_some h_14
theorem K_X2_forgetSeen_B2 {v0 : Int32} {hh : Nat} {x1 : Int32} {s : mG} (h : KV 0 2 v0 s) : pk (F_X2_forgetSeen_B2 hh x1 s) (se (fun τ => KV 0 2 v0 τ.2) (fun τ => KV 0 2 v0 τ)) := by
  unfold F_X2_forgetSeen_B2
  refine pk_ite ?_ ?_
  · exact pk_some h
  · refine pk_b1 (K_X2_forgetSeenOf h) (fun s_1 (h_2 : KV 0 2 v0 s_1) => ?_)
    exact pk_some h_2
theorem K_X2_forgetSeen_L2 {v0 : Int32} {hh : Nat} {x1 : Int32} {s : mG} (h : KV 0 2 v0 s) : pk (F_X2_forgetSeen_L2 hh x1 s) (fun τ => KV 0 2 v0 τ) := by
  unfold F_X2_forgetSeen_L2
  refine pk_whl (fun v => KV 0 2 v0 v.2) h (fun v hv => ?_)
  obtain ⟨y0, y1⟩ := v
  exact K_X2_forgetSeen_B2 hv
theorem K_X2_forgetSeen {v0 : Int32} {hh : Nat} {s : mG} (h : KV 0 2 v0 s) : pk (F_X2_forgetSeen hh s) (fun τ => KV 0 2 v0 τ) := by
  unfold F_X2_forgetSeen
  exact (K_X2_forgetSeen_L2 h)
theorem K_X2_drawThousand {v0 : Int32} {hh : Nat} {s : mG} (h : KV 0 2 v0 s) : pk (F_X2_drawThousand hh s) (fun τ => KV 0 2 v0 τ.2) := by
  unfold F_X2_drawThousand
  extract_lets +onlyGivenNames s_1
  have h_2 : KV 0 2 v0 s_1 := KV_mu h (Or.inr (by decide))
  clear_value s_1
  extract_lets +onlyGivenNames v_3
  clear_value v_3
  exact pk_some h_2
theorem K_X2_write {v0 : Int32} {hh : Nat} {a1 : Int32} {a2 : Int32} {a3 : Int32} {a4 : Int32} {s : mG} (h : KV 0 2 v0 s) : pk (F_X2_write hh a1 a2 a3 a4 s) (fun τ => KV 0 2 v0 τ) := by
  unfold F_X2_write
  refine pk_b1 pk_top (fun _ _ => ?_)
  refine pk_ite ?_ ?_
  · refine pk_b2 (K_X10_add h) (fun _ s_1 (h_2 : KV 0 2 v0 s_1) => ?_)
    refine pk_b1 (K_X10_put h_2) (fun s_3 (h_4 : KV 0 2 v0 s_3) => ?_)
    refine pk_b1 (K_X10_put h_4) (fun s_5 (h_6 : KV 0 2 v0 s_5) => ?_)
    refine pk_b1 (K_X10_put h_6) (fun s_7 (h_8 : KV 0 2 v0 s_7) => ?_)
    refine pk_b1 (K_X10_put h_8) (fun s_9 (h_10 : KV 0 2 v0 s_9) => ?_)
    refine pk_b1 (K_X10_put h_10) (fun s_11 (h_12 : KV 0 2 v0 s_11) => ?_)
    exact pk_some h_12
  · exact pk_some h
theorem K_X4_takeFrom {v0 : Int32} {mo : Nat} {a1 : Nat} {s : mG} (hm : mo ≠ 0) (h : KV 0 2 v0 s) : pk (F_X4_takeFrom mo a1 s) (fun τ => KV 0 2 v0 τ) := by
  unfold F_X4_takeFrom
  refine pk_b1 (K_X10_copyFrom h) (fun s_1 (h_2 : KV 0 2 v0 s_1) => ?_)
  extract_lets +onlyGivenNames s_3
  have h_4 : KV 0 2 v0 s_3 := KV_mu h_2 (Or.inl (Ne.symm hm))
  clear_value s_3
  extract_lets +onlyGivenNames s_5
  have h_6 : KV 0 2 v0 s_5 := KV_mu h_4 (Or.inl (Ne.symm hm))
  clear_value s_5
  extract_lets +onlyGivenNames s_7
  have h_8 : KV 0 2 v0 s_7 := KV_mu h_6 (Or.inl (Ne.symm hm))
  clear_value s_7
  exact pk_some h_8
theorem K_X4_giveTo {v0 : Int32} {mo : Nat} {a1 : Nat} {s : mG} (hm : mo ≠ 0) (h : KV 0 2 v0 s) : pk (F_X4_giveTo mo a1 s) (fun τ => KV 0 2 v0 τ) := by
  unfold F_X4_giveTo
  refine pk_b1 (K_X10_copyFrom h) (fun s_1 (h_2 : KV 0 2 v0 s_1) => ?_)
  extract_lets +onlyGivenNames s_3
  have h_4 : KV 0 2 v0 s_3 := KV_mu h_2 (Or.inl (by omega))
  clear_value s_3
  extract_lets +onlyGivenNames s_5
  have h_6 : KV 0 2 v0 s_5 := KV_mu h_4 (Or.inr (by decide))
  clear_value s_5
  extract_lets +onlyGivenNames s_7
  have h_8 : KV 0 2 v0 s_7 := KV_mu h_6 (Or.inr (by decide))
  clear_value s_7
  exact pk_some h_8
theorem K_X5_forget {v0 : Int32} {s : mG} (h : KV 0 2 v0 s) : pk (F_X5_forget s) (fun τ => KV 0 2 v0 τ) := by
  unfold F_X5_forget
  extract_lets +onlyGivenNames s_1
  have h_2 : KV 0 2 v0 s_1 := KV_mu h (Or.inl (by decide))
  clear_value s_1
  exact pk_some h_2
theorem K_X5_keep {v0 : Int32} {a1 : Nat} {s : mG} (h : KV 0 2 v0 s) : pk (F_X5_keep a1 s) (fun τ => KV 0 2 v0 τ) := by
  unfold F_X5_keep
  refine pk_bo ?_ (fun o1 ho1 => ?_)
  · exact pk_some h
  · refine pk_b1 (K_X4_takeFrom (isM_ne0 (momM ho1)) h) (fun s_2 (h_3 : KV 0 2 v0 s_2) => ?_)
    extract_lets +onlyGivenNames s_4
    have h_5 : KV 0 2 v0 s_4 := KV_mu h_3 (Or.inl (by decide))
    clear_value s_4
    extract_lets +onlyGivenNames s_6
    have h_7 : KV 0 2 v0 s_6 := KV_mu h_5 (Or.inl (by decide))
    clear_value s_6
    exact pk_some h_7
theorem K_X5_giveBack_30 {v0 : Int32} {a1 : Nat} {s : mG} (h : KV 0 2 v0 s) : pk (F_X5_giveBack_30 a1 s) (fun τ => KV 0 2 v0 τ.2) := by
  unfold F_X5_giveBack_30
  exact pk_some h
theorem K_X5_giveBack {v0 : Int32} {a1 : Nat} {s : mG} (h : KV 0 2 v0 s) : pk (F_X5_giveBack a1 s) (fun τ => KV 0 2 v0 τ.2) := by
  unfold F_X5_giveBack
  extract_lets +onlyGivenNames v_1
  clear_value v_1
  refine pk_bo ?_ (fun o1 ho1 => ?_)
  · refine pk_ite ?_ ?_
    · exact (K_X5_giveBack_30 h)
    · exact (K_X5_giveBack_30 h)
  · refine pk_ite ?_ ?_
    · exact (K_X5_giveBack_30 h)
    · refine pk_b1 (K_X4_giveTo (isM_ne0 (momM ho1)) h) (fun s_3 (h_4 : KV 0 2 v0 s_3) => ?_)
      extract_lets +onlyGivenNames s_5
      have h_6 : KV 0 2 v0 s_5 := KV_mu h_4 (Or.inl (by decide))
      clear_value s_5
      extract_lets +onlyGivenNames s_7
      have h_8 : KV 0 2 v0 s_7 := KV_mu h_6 (Or.inl (by decide))
      clear_value s_7
      exact pk_some h_8
theorem K_X6_ask_B10 {v0 : Int32} {x2 : Int32} {s : mG} (h : KV 0 2 v0 s) : pk (F_X6_ask_B10 x2 s) (se (fun τ => KV 0 2 v0 τ.2) (fun τ => KV 0 2 v0 τ)) := by
  unfold F_X6_ask_B10
  refine pk_ite ?_ ?_
  · exact pk_some h
  · refine pk_b2 (K_X3_tells h) (fun _ s_1 (h_2 : KV 0 2 v0 s_1) => ?_)
    refine pk_nn ?_
    extract_lets +onlyGivenNames s_3
    have h_4 : KV 0 2 v0 s_3 := KV_mu h_2 (Or.inl (by decide))
    clear_value s_3
    exact pk_some h_4
theorem K_X6_ask_L10 {v0 : Int32} {x2 : Int32} {s : mG} (h : KV 0 2 v0 s) : pk (F_X6_ask_L10 x2 s) (fun τ => KV 0 2 v0 τ) := by
  unfold F_X6_ask_L10
  refine pk_whl (fun v => KV 0 2 v0 v.2) h (fun v hv => ?_)
  obtain ⟨y0, y1⟩ := v
  exact K_X6_ask_B10 hv
theorem K_X6_ask {v0 : Int32} {a1 : Int32} {s : mG} (h : KV 0 2 v0 s) : pk (F_X6_ask a1 s) (fun τ => KV 0 2 v0 τ) := by
  unfold F_X6_ask
  refine pk_b1 (K_X3_face h) (fun s_1 (h_2 : KV 0 2 v0 s_1) => ?_)
  exact (K_X6_ask_L10 h_2)
theorem K_X6_isDrawn {v0 : Int32} {a1 : Int32} {s : mG} (h : KV 0 2 v0 s) : pk (F_X6_isDrawn a1 s) (fun τ => KV 0 2 v0 τ.2) := by
  unfold F_X6_isDrawn
  refine pk_b2 (K_X2_drawThousand h) (fun _ s_1 (h_2 : KV 0 2 v0 s_1) => ?_)
  refine pk_b1 pk_top (fun _ _ => ?_)
  refine pk_ite ?_ ?_
  · exact pk_some h_2
  · exact pk_some h_2
theorem K_X6_hangKey_51 {v0 : Int32} {x1 : Int32} {x2 : Int32} {s : mG} (h : KV 0 2 v0 s) : pk (F_X6_hangKey_51 x1 x2 s) (fun τ => KV 0 2 v0 τ) := by
  unfold F_X6_hangKey_51
  refine pk_b1 pk_top (fun _ _ => ?_)
  refine pk_ite ?_ ?_
  · refine pk_b1 (K_X10_put h) (fun s_1 (h_2 : KV 0 2 v0 s_1) => ?_)
    exact pk_some h_2
  · exact pk_some h
theorem K_X6_hangKey_50 {v0 : Int32} {x1 : Int32} {y0 : Int32} {s : mG} (h : KV 0 2 v0 s) : pk (F_X6_hangKey_50 x1 y0 s) (fun τ => KV 0 2 v0 τ) := by
  unfold F_X6_hangKey_50
  exact (K_X6_hangKey_51 h)
theorem K_X6_hangKey_33 {v0 : Int32} {x1 : Int32} {y0 : Int32} {s : mG} (h : KV 0 2 v0 s) : pk (F_X6_hangKey_33 x1 y0 s) (fun τ => KV 0 2 v0 τ) := by
  unfold F_X6_hangKey_33
  refine pk_b1 pk_top (fun _ _ => ?_)
  refine pk_ite ?_ ?_
  · exact (K_X6_hangKey_50 h)
  · exact (K_X6_hangKey_50 h)
theorem K_X6_hangKey {v0 : Int32} {a1 : Int32} {s : mG} (h : KV 0 2 v0 s) : pk (F_X6_hangKey a1 s) (fun τ => KV 0 2 v0 τ) := by
  unfold F_X6_hangKey
  refine pk_b2 (K_X6_isDrawn h) (fun _ s_1 (h_2 : KV 0 2 v0 s_1) => ?_)
  refine pk_ite ?_ ?_
  · exact (K_X6_hangKey_51 h_2)
  · refine pk_ite ?_ ?_
    · exact (K_X6_hangKey_33 h_2)
    · exact (K_X6_hangKey_33 h_2)
theorem K_X6_goes_50 {v0 : Int32} {x1 : Int32} {x2 : Int32} {s : mG} (h : KV 0 2 v0 s) : pk (F_X6_goes_50 x1 x2 s) (fun τ => KV 0 2 v0 τ.2) := by
  unfold F_X6_goes_50
  refine pk_b1 pk_top (fun _ _ => ?_)
  refine pk_b1 (K_X2_write h) (fun s_1 (h_2 : KV 0 2 v0 s_1) => ?_)
  exact pk_some h_2
theorem K_X6_goes_36 {v0 : Int32} {x1 : Int32} {y0 : Int32} {s : mG} (h : KV 0 2 v0 s) : pk (F_X6_goes_36 x1 y0 s) (fun τ => KV 0 2 v0 τ.2) := by
  unfold F_X6_goes_36
  refine pk_b2 (K_X6_isDrawn h) (fun _ s_1 (h_2 : KV 0 2 v0 s_1) => ?_)
  refine pk_ite ?_ ?_
  · refine pk_b1 (K_X6_hangKey h_2) (fun s_3 (h_4 : KV 0 2 v0 s_3) => ?_)
    exact (K_X6_goes_50 h_4)
  · exact (K_X6_goes_50 h_2)
theorem K_X6_goes {v0 : Int32} {a1 : Int32} {s : mG} (h : KV 0 2 v0 s) : pk (F_X6_goes a1 s) (fun τ => KV 0 2 v0 τ.2) := by
  unfold F_X6_goes
  refine pk_b2 (K_X6_isDrawn h) (fun _ s_1 (h_2 : KV 0 2 v0 s_1) => ?_)
  refine pk_ite ?_ ?_
  · exact pk_some h_2
  · refine pk_b1 (K_X10_put h_2) (fun s_3 (h_4 : KV 0 2 v0 s_3) => ?_)
    refine pk_b2 (K_X6_isDrawn h_4) (fun _ s_5 (h_6 : KV 0 2 v0 s_5) => ?_)
    refine pk_ite ?_ ?_
    · exact (K_X6_goes_36 h_6)
    · exact (K_X6_goes_36 h_6)
theorem K_X6_comes_49 {v0 : Int32} {x1 : Int32} {y0 : Int32} {s : mG} (h : KV 0 2 v0 s) : pk (F_X6_comes_49 x1 y0 s) (fun τ => KV 0 2 v0 τ.2) := by
  unfold F_X6_comes_49
  refine pk_b1 pk_top (fun _ _ => ?_)
  refine pk_b1 (K_X2_write h) (fun s_1 (h_2 : KV 0 2 v0 s_1) => ?_)
  exact pk_some h_2
theorem K_X6_comes {v0 : Int32} {a1 : Int32} {s : mG} (h : KV 0 2 v0 s) : pk (F_X6_comes a1 s) (fun τ => KV 0 2 v0 τ.2) := by
  unfold F_X6_comes
  refine pk_b2 (K_X6_isDrawn h) (fun _ s_1 (h_2 : KV 0 2 v0 s_1) => ?_)
  refine pk_ite ?_ ?_
  · exact pk_some h_2
  · refine pk_b1 (K_X10_put h_2) (fun s_3 (h_4 : KV 0 2 v0 s_3) => ?_)
    refine pk_b1 (K_X10_put h_4) (fun s_5 (h_6 : KV 0 2 v0 s_5) => ?_)
    refine pk_b2 (K_X6_isDrawn h_6) (fun _ s_7 (h_8 : KV 0 2 v0 s_7) => ?_)
    refine pk_ite ?_ ?_
    · exact (K_X6_comes_49 h_8)
    · exact (K_X6_comes_49 h_8)
theorem K_X6_passHour_101 {v0 : Int32} {x1 : Int32} {x2 : Int32} {y1 : Int32} {y2 : Int32} {y3 : Int32} {s : mG} (h : KV 0 2 v0 s) : pk (F_X6_passHour_101 x1 x2 y1 y2 y3 s) (se (fun τ => KV 0 2 v0 τ.2.2) (fun τ => KV 0 2 v0 τ.2)) := by
  unfold F_X6_passHour_101
  refine pk_b1 (K_X10_put h) (fun s_1 (h_2 : KV 0 2 v0 s_1) => ?_)
  exact pk_some h_2
theorem K_X6_passHour_58 {v0 : Int32} {x2 : Int32} {x3 : Int32} {y0 : Int32} {y1 : Int32} {s : mG} (h : KV 0 2 v0 s) : pk (F_X6_passHour_58 x2 x3 y0 y1 s) (se (fun τ => KV 0 2 v0 τ.2.2) (fun τ => KV 0 2 v0 τ.2)) := by
  unfold F_X6_passHour_58
  refine pk_b1 pk_top (fun _ _ => ?_)
  extract_lets +onlyGivenNames v_1
  clear_value v_1
  refine pk_ite ?_ ?_
  · exact (K_X6_passHour_101 h)
  · exact (K_X6_passHour_101 h)
theorem K_X6_passHour_47 {v0 : Int32} {x1 : Int32} {x2 : Int32} {y0 : Int32} {s : mG} (h : KV 0 2 v0 s) : pk (F_X6_passHour_47 x1 x2 y0 s) (se (fun τ => KV 0 2 v0 τ.2.2) (fun τ => KV 0 2 v0 τ.2)) := by
  unfold F_X6_passHour_47
  refine pk_ite ?_ ?_
  · exact (K_X6_passHour_58 h)
  · exact (K_X6_passHour_58 h)
theorem K_X6_passHour_B4 {v0 : Int32} {x1 : Int32} {x2 : Int32} {s : mG} (h : KV 0 2 v0 s) : pk (F_X6_passHour_B4 x1 x2 s) (se (fun τ => KV 0 2 v0 τ.2.2) (fun τ => KV 0 2 v0 τ.2)) := by
  unfold F_X6_passHour_B4
  refine pk_ite ?_ ?_
  · extract_lets +onlyGivenNames s_1
    have h_2 : KV 0 2 v0 s_1 := KV_mu h (Or.inl (by decide))
    clear_value s_1
    exact pk_some h_2
  · refine pk_b1 (K_X6_ask h) (fun s_3 (h_4 : KV 0 2 v0 s_3) => ?_)
    refine pk_b1 pk_top (fun _ _ => ?_)
    refine pk_ite ?_ ?_
    · refine pk_b2 (K_X6_goes h_4) (fun _ s_5 (h_6 : KV 0 2 v0 s_5) => ?_)
      exact (K_X6_passHour_47 h_6)
    · refine pk_b2 (K_X6_comes h_4) (fun _ s_7 (h_8 : KV 0 2 v0 s_7) => ?_)
      exact (K_X6_passHour_47 h_8)
end
end
/-! 59.w1.keep -/
section
noncomputable section
theorem K_X6_passHour_L4 {v0 : Int32} {x1 : Int32} {x2 : Int32} {s : mG} (h : KV 0 2 v0 s) : pk (F_X6_passHour_L4 x1 x2 s) (fun τ => KV 0 2 v0 τ.2) := by
  unfold F_X6_passHour_L4
  refine pk_whl (fun v => KV 0 2 v0 v.2.2) h (fun v hv => ?_)
  obtain ⟨y0, y1, y2⟩ := v
  exact K_X6_passHour_B4 hv
theorem K_X6_passHour {v0 : Int32} {s : mG} (h : KV 0 2 v0 s) : pk (F_X6_passHour s) (fun τ => KV 0 2 v0 τ.2) := by
  unfold F_X6_passHour
  exact (K_X6_passHour_L4 h)
theorem K_X7_takeFour_B3 {v0 : Int32} {x1 : Int32} {x2 : Int32} {s : mG} (h : KV 0 2 v0 s) : pk (F_X7_takeFour_B3 x1 x2 s) (se (fun τ => KV 0 2 v0 τ.2.2) (fun τ => KV 0 2 v0 τ)) := by
  unfold F_X7_takeFour_B3
  refine pk_ite ?_ ?_
  · exact pk_some h
  · refine pk_b1 (K_X11_put (by decide) h) (fun s_1 (h_2 : KV 0 2 v0 s_1) => ?_)
    extract_lets +onlyGivenNames s_3
    have h_4 : KV 0 2 v0 s_3 := KV_mu h_2 (Or.inl (by decide))
    clear_value s_3
    exact pk_some h_4
theorem K_X7_takeFour_L3 {v0 : Int32} {x1 : Int32} {x2 : Int32} {s : mG} (h : KV 0 2 v0 s) : pk (F_X7_takeFour_L3 x1 x2 s) (fun τ => KV 0 2 v0 τ) := by
  unfold F_X7_takeFour_L3
  refine pk_whl (fun v => KV 0 2 v0 v.2.2) h (fun v hv => ?_)
  obtain ⟨y0, y1, y2⟩ := v
  exact K_X7_takeFour_B3 hv
theorem K_X7_takeFour {v0 : Int32} {a1 : Int32} {s : mG} (h : KV 0 2 v0 s) : pk (F_X7_takeFour a1 s) (fun τ => KV 0 2 v0 τ) := by
  unfold F_X7_takeFour
  exact (K_X7_takeFour_L3 h)
theorem K_X7_stepOn {v0 : Int32} {s : mG} (h : KV 0 2 v0 s) : pk (F_X7_stepOn s) (fun τ => KV 0 2 v0 τ) := by
  unfold F_X7_stepOn
  extract_lets +onlyGivenNames s_1
  have h_2 : KV 0 2 v0 s_1 := KV_mu h (Or.inl (by decide))
  clear_value s_1
  refine pk_b1 pk_top (fun _ _ => ?_)
  extract_lets +onlyGivenNames s_3
  have h_4 : KV 0 2 v0 s_3 := KV_mu h_2 (Or.inl (by decide))
  clear_value s_3
  refine pk_b1 pk_top (fun _ _ => ?_)
  extract_lets +onlyGivenNames s_5
  have h_6 : KV 0 2 v0 s_5 := KV_mu h_4 (Or.inl (by decide))
  clear_value s_5
  refine pk_b1 pk_top (fun _ _ => ?_)
  extract_lets +onlyGivenNames s_7
  have h_8 : KV 0 2 v0 s_7 := KV_mu h_6 (Or.inl (by decide))
  clear_value s_7
  exact pk_some h_8
theorem K_X7_skipBlanks_41 {v0 : Int32} {s : mG} (h : KV 0 2 v0 s) : pk (F_X7_skipBlanks_41 s) (fun τ => KV 0 2 v0 τ.2) := by
  unfold F_X7_skipBlanks_41
  refine pk_ite ?_ ?_
  · exact pk_some h
  · exact pk_some h
theorem K_X7_skipBlanks_B0 {v0 : Int32} {s : mG} (h : KV 0 2 v0 s) : pk (F_X7_skipBlanks_B0 s) (se (fun τ => KV 0 2 v0 τ) (fun τ => KV 0 2 v0 τ.2)) := by
  unfold F_X7_skipBlanks_B0
  refine pk_ite ?_ ?_
  · refine pk_b1r ?_
    exact (K_X7_skipBlanks_41 h)
  · refine pk_b1 pk_top (fun _ _ => ?_)
    refine pk_b1 pk_top (fun _ _ => ?_)
    refine pk_ite ?_ ?_
    · refine pk_b1r ?_
      exact (K_X7_skipBlanks_41 h)
    · extract_lets +onlyGivenNames s_1
      have h_2 : KV 0 2 v0 s_1 := KV_mu h (Or.inl (by decide))
      clear_value s_1
      exact pk_some h_2
theorem K_X7_skipBlanks_L0 {v0 : Int32} {s : mG} (h : KV 0 2 v0 s) : pk (F_X7_skipBlanks_L0 s) (fun τ => KV 0 2 v0 τ.2) := by
  unfold F_X7_skipBlanks_L0
  refine pk_whl (fun v => KV 0 2 v0 v) h (fun v hv => ?_)
  exact K_X7_skipBlanks_B0 hv
theorem K_X7_skipBlanks {v0 : Int32} {s : mG} (h : KV 0 2 v0 s) : pk (F_X7_skipBlanks s) (fun τ => KV 0 2 v0 τ.2) := by
  unfold F_X7_skipBlanks
  exact (K_X7_skipBlanks_L0 h)
theorem K_X7_addToken {v0 : Int32} {a1 : Int32} {a2 : Int32} {a3 : Int32} {s : mG} (h : KV 0 2 v0 s) : pk (F_X7_addToken a1 a2 a3 s) (fun τ => KV 0 2 v0 τ) := by
  unfold F_X7_addToken
  refine pk_b2 (K_X10_add h) (fun _ s_1 (h_2 : KV 0 2 v0 s_1) => ?_)
  refine pk_b1 (K_X10_put h_2) (fun s_3 (h_4 : KV 0 2 v0 s_3) => ?_)
  refine pk_b1 (K_X10_put h_4) (fun s_5 (h_6 : KV 0 2 v0 s_5) => ?_)
  refine pk_b1 (K_X10_put h_6) (fun s_7 (h_8 : KV 0 2 v0 s_7) => ?_)
  exact pk_some h_8
theorem K_X7_splitWord_68 {v0 : Int32} {x1 : Int32} {y1 : Int32} {s : mG} (h : KV 0 2 v0 s) : pk (F_X7_splitWord_68 x1 y1 s) (fun τ => KV 0 2 v0 τ) := by
  unfold F_X7_splitWord_68
  refine pk_b1 (K_X7_addToken h) (fun s_1 (h_2 : KV 0 2 v0 s_1) => ?_)
  exact pk_some h_2
theorem K_X7_splitWord_46 {v0 : Int32} {x1 : Int32} {s : mG} (h : KV 0 2 v0 s) : pk (F_X7_splitWord_46 x1 s) (fun τ => KV 0 2 v0 τ) := by
  unfold F_X7_splitWord_46
  refine pk_b1 pk_top (fun _ _ => ?_)
  refine pk_ite ?_ ?_
  · exact (K_X7_splitWord_68 h)
  · exact (K_X7_splitWord_68 h)
theorem K_X7_splitWord_B5 {v0 : Int32} {x1 : Int32} {s : mG} (h : KV 0 2 v0 s) : pk (F_X7_splitWord_B5 x1 s) (se (fun τ => KV 0 2 v0 τ.2) (fun τ => KV 0 2 v0 τ)) := by
  unfold F_X7_splitWord_B5
  refine pk_ite ?_ ?_
  · refine pk_b1r ?_
    exact (K_X7_splitWord_46 h)
  · refine pk_b1 pk_top (fun _ _ => ?_)
    refine pk_b1 pk_top (fun _ _ => ?_)
    refine pk_ite ?_ ?_
    · refine pk_b1r ?_
      exact (K_X7_splitWord_46 h)
    · extract_lets +onlyGivenNames s_1
      have h_2 : KV 0 2 v0 s_1 := KV_mu h (Or.inl (by decide))
      clear_value s_1
      exact pk_some h_2
theorem K_X7_splitWord_L5 {v0 : Int32} {x1 : Int32} {s : mG} (h : KV 0 2 v0 s) : pk (F_X7_splitWord_L5 x1 s) (fun τ => KV 0 2 v0 τ) := by
  unfold F_X7_splitWord_L5
  refine pk_whl (fun v => KV 0 2 v0 v.2) h (fun v hv => ?_)
  obtain ⟨y0, y1⟩ := v
  exact K_X7_splitWord_B5 hv
theorem K_X7_splitWord {v0 : Int32} {s : mG} (h : KV 0 2 v0 s) : pk (F_X7_splitWord s) (fun τ => KV 0 2 v0 τ) := by
  unfold F_X7_splitWord
  exact (K_X7_splitWord_L5 h)
theorem K_X7_splitNumber_100 {v0 : Int32} {x1 : Int32} {x2 : Int32} {y1 : Int32} {s : mG} (h : KV 0 2 v0 s) : pk (F_X7_splitNumber_100 x1 x2 y1 s) (fun τ => KV 0 2 v0 τ) := by
  unfold F_X7_splitNumber_100
  refine pk_b1 (K_X7_addToken h) (fun s_1 (h_2 : KV 0 2 v0 s_1) => ?_)
  exact pk_some h_2
theorem K_X7_splitNumber_82 {v0 : Int32} {x1 : Int32} {x2 : Int32} {s : mG} (h : KV 0 2 v0 s) : pk (F_X7_splitNumber_82 x1 x2 s) (fun τ => KV 0 2 v0 τ) := by
  unfold F_X7_splitNumber_82
  refine pk_ite ?_ ?_
  · exact (K_X7_splitNumber_100 h)
  · exact (K_X7_splitNumber_100 h)
theorem K_X7_splitNumber_68 {v0 : Int32} {x1 : Int32} {y0 : Int32} {s : mG} (h : KV 0 2 v0 s) : pk (F_X7_splitNumber_68 x1 y0 s) (se (fun τ => KV 0 2 v0 τ.2.2) (fun τ => KV 0 2 v0 τ)) := by
  unfold F_X7_splitNumber_68
  extract_lets +onlyGivenNames s_1
  have h_2 : KV 0 2 v0 s_1 := KV_mu h (Or.inl (by decide))
  clear_value s_1
  exact pk_some h_2
theorem K_X7_splitNumber_B7 {v0 : Int32} {x1 : Int32} {x2 : Int32} {s : mG} (h : KV 0 2 v0 s) : pk (F_X7_splitNumber_B7 x1 x2 s) (se (fun τ => KV 0 2 v0 τ.2.2) (fun τ => KV 0 2 v0 τ)) := by
  unfold F_X7_splitNumber_B7
  refine pk_ite ?_ ?_
  · refine pk_b1r ?_
    exact (K_X7_splitNumber_82 h)
  · refine pk_b1 pk_top (fun _ _ => ?_)
    refine pk_b1 pk_top (fun _ _ => ?_)
    refine pk_ite ?_ ?_
    · refine pk_b1r ?_
      exact (K_X7_splitNumber_82 h)
    · refine pk_ite ?_ ?_
      · exact (K_X7_splitNumber_68 h)
      · refine pk_b1 pk_top (fun _ _ => ?_)
        exact (K_X7_splitNumber_68 h)
theorem K_X7_splitNumber_L7 {v0 : Int32} {x1 : Int32} {x2 : Int32} {s : mG} (h : KV 0 2 v0 s) : pk (F_X7_splitNumber_L7 x1 x2 s) (fun τ => KV 0 2 v0 τ) := by
  unfold F_X7_splitNumber_L7
  refine pk_whl (fun v => KV 0 2 v0 v.2.2) h (fun v hv => ?_)
  obtain ⟨y0, y1, y2⟩ := v
  exact K_X7_splitNumber_B7 hv
theorem K_X7_splitNumber {v0 : Int32} {s : mG} (h : KV 0 2 v0 s) : pk (F_X7_splitNumber s) (fun τ => KV 0 2 v0 τ) := by
  unfold F_X7_splitNumber
  exact (K_X7_splitNumber_L7 h)
theorem K_X7_splitTape_94 {v0 : Int32} {s : mG} (h : KV 0 2 v0 s) : pk (F_X7_splitTape_94 s) (fun τ => KV 0 2 v0 τ) := by
  unfold F_X7_splitTape_94
  refine pk_b1 (K_X7_addToken h) (fun s_1 (h_2 : KV 0 2 v0 s_1) => ?_)
  exact pk_some h_2
theorem K_X7_splitTape_88 {v0 : Int32} {x1 : Int32} {s : mG} (h : KV 0 2 v0 s) : pk (F_X7_splitTape_88 x1 s) (se (fun τ => KV 0 2 v0 τ.2) (fun τ => KV 0 2 v0 τ)) := by
  unfold F_X7_splitTape_88
  exact pk_some h
theorem K_X7_splitTape_B14 {v0 : Int32} {x1 : Int32} {s : mG} (h : KV 0 2 v0 s) : pk (F_X7_splitTape_B14 x1 s) (se (fun τ => KV 0 2 v0 τ.2) (fun τ => KV 0 2 v0 τ)) := by
  unfold F_X7_splitTape_B14
  refine pk_ite ?_ ?_
  · refine pk_b1r ?_
    exact (K_X7_splitTape_94 h)
  · refine pk_b2 (K_X7_skipBlanks h) (fun _ s_1 (h_2 : KV 0 2 v0 s_1) => ?_)
    refine pk_ite ?_ ?_
    · refine pk_b1r ?_
      exact (K_X7_splitTape_94 h_2)
    · refine pk_b1 pk_top (fun _ _ => ?_)
      refine pk_b1 pk_top (fun _ _ => ?_)
      refine pk_ite ?_ ?_
      · refine pk_b1 pk_top (fun _ _ => ?_)
        refine pk_ite ?_ ?_
        · refine pk_b1 (K_X7_addToken h_2) (fun s_3 (h_4 : KV 0 2 v0 s_3) => ?_)
          extract_lets +onlyGivenNames s_5
          have h_6 : KV 0 2 v0 s_5 := KV_mu h_4 (Or.inl (by decide))
          clear_value s_5
          exact (K_X7_splitTape_88 h_6)
        · refine pk_b1 (K_X7_splitNumber h_2) (fun s_7 (h_8 : KV 0 2 v0 s_7) => ?_)
          exact (K_X7_splitTape_88 h_8)
      · refine pk_b1 (K_X7_splitWord h_2) (fun s_9 (h_10 : KV 0 2 v0 s_9) => ?_)
        exact (K_X7_splitTape_88 h_10)
theorem K_X7_splitTape_L14 {v0 : Int32} {x1 : Int32} {s : mG} (h : KV 0 2 v0 s) : pk (F_X7_splitTape_L14 x1 s) (fun τ => KV 0 2 v0 τ) := by
  unfold F_X7_splitTape_L14
  refine pk_whl (fun v => KV 0 2 v0 v.2) h (fun v hv => ?_)
  obtain ⟨y0, y1⟩ := v
  exact K_X7_splitTape_B14 hv
theorem K_X7_splitTape {v0 : Int32} {s : mG} (h : KV 0 2 v0 s) : pk (F_X7_splitTape s) (fun τ => KV 0 2 v0 τ) := by
  unfold F_X7_splitTape
  refine pk_b1 (K_X10_clear h) (fun s_1 (h_2 : KV 0 2 v0 s_1) => ?_)
  extract_lets +onlyGivenNames s_3
  have h_4 : KV 0 2 v0 s_3 := KV_mu h_2 (Or.inl (by decide))
  clear_value s_3
  exact (K_X7_splitTape_L14 h_4)
theorem K_X7_refuse {v0 : Int32} {a1 : Int32} {s : mG} (h : KV 0 2 v0 s) : pk (F_X7_refuse a1 s) (fun τ => KV 0 2 v0 τ.2) := by
  unfold F_X7_refuse
  extract_lets +onlyGivenNames s_1
  have h_2 : KV 0 2 v0 s_1 := KV_mu h (Or.inl (by decide))
  clear_value s_1
  extract_lets +onlyGivenNames s_3
  have h_4 : KV 0 2 v0 s_3 := KV_mu h_2 (Or.inl (by decide))
  clear_value s_3
  exact pk_some h_4
theorem K_X7_pass {v0 : Int32} {a1 : Int32} {s : mG} (h : KV 0 2 v0 s) : pk (F_X7_pass a1 s) (fun τ => KV 0 2 v0 τ.2) := by
  unfold F_X7_pass
  refine pk_ite ?_ ?_
  · refine pk_b1 (K_X7_stepOn h) (fun s_1 (h_2 : KV 0 2 v0 s_1) => ?_)
    exact pk_some h_2
  · refine pk_b2 (K_X7_refuse h) (fun _ s_3 (h_4 : KV 0 2 v0 s_3) => ?_)
    refine pk_pp ?_
    exact pk_some h_4
theorem K_X7_readHead_30 {v0 : Int32} {a2 : Nat} {s : mG} (h : KV 0 2 v0 s) : pk (F_X7_readHead_30 a2 s) (fun τ => KV 0 2 v0 τ.2) := by
  unfold F_X7_readHead_30
  exact pk_some h
theorem K_X7_readHead {v0 : Int32} {a2 : Nat} {a1 : Int32} {s : mG} (h : KV 0 2 v0 s) : pk (F_X7_readHead a2 a1 s) (fun τ => KV 0 2 v0 τ.2) := by
  unfold F_X7_readHead
  refine pk_ite ?_ ?_
  · refine pk_b2 (K_X10_add h) (fun _ s_1 (h_2 : KV 0 2 v0 s_1) => ?_)
    refine pk_ite ?_ ?_
    · refine pk_b2 (K_X7_refuse h_2) (fun _ s_3 (h_4 : KV 0 2 v0 s_3) => ?_)
      refine pk_ite ?_ ?_
      · exact pk_some h_4
      · exact (K_X7_readHead_30 h_4)
    · exact (K_X7_readHead_30 h_2)
  · refine pk_b2 (K_X7_refuse h) (fun _ s_5 (h_6 : KV 0 2 v0 s_5) => ?_)
    refine pk_pp ?_
    exact pk_some h_6
theorem K_X7_readNamed {v0 : Int32} {a4 : Nat} {a1 : Int32} {a2 : Int32} {a3 : Int32} {a5 : Int32} {s : mG} (h : KV 0 2 v0 s) : pk (F_X7_readNamed a4 a1 a2 a3 a5 s) (fun τ => KV 0 2 v0 τ.2) := by
  unfold F_X7_readNamed
  refine pk_b2 (K_X7_pass h) (fun _ s_1 (h_2 : KV 0 2 v0 s_1) => ?_)
  refine pk_ite ?_ ?_
  · exact pk_some h_2
  · refine pk_ite ?_ ?_
    · refine pk_b1 pk_top (fun _ _ => ?_)
      refine pk_ite ?_ ?_
      · refine pk_b2 (K_X7_refuse h_2) (fun _ s_3 (h_4 : KV 0 2 v0 s_3) => ?_)
        refine pk_pp ?_
        exact pk_some h_4
      · refine pk_b1 (K_X10_put h_2) (fun s_5 (h_6 : KV 0 2 v0 s_5) => ?_)
        refine pk_b1 (K_X7_stepOn h_6) (fun s_7 (h_8 : KV 0 2 v0 s_7) => ?_)
        exact pk_some h_8
    · refine pk_b2 (K_X7_refuse h_2) (fun _ s_9 (h_10 : KV 0 2 v0 s_9) => ?_)
      refine pk_pp ?_
      exact pk_some h_10
theorem K_X7_readSign_71 {v0 : Int32} {s : mG} (h : KV 0 2 v0 s) : pk (F_X7_readSign_71 s) (fun τ => KV 0 2 v0 τ.2) := by
  unfold F_X7_readSign_71
  exact pk_some h
theorem K_X7_readSign {v0 : Int32} {s : mG} (h : KV 0 2 v0 s) : pk (F_X7_readSign s) (fun τ => KV 0 2 v0 τ.2) := by
  unfold F_X7_readSign
  refine pk_b2 (K_X7_readHead h) (fun _ s_1 (h_2 : KV 0 2 v0 s_1) => ?_)
  refine pk_ite ?_ ?_
  · exact pk_some h_2
  · refine pk_b1 (K_X7_stepOn h_2) (fun s_3 (h_4 : KV 0 2 v0 s_3) => ?_)
    refine pk_b2 (K_X7_readNamed h_4) (fun _ s_5 (h_6 : KV 0 2 v0 s_5) => ?_)
    refine pk_ite ?_ ?_
    · exact (K_X7_readSign_71 h_6)
    · refine pk_b2 (K_X7_readNamed h_6) (fun _ s_7 (h_8 : KV 0 2 v0 s_7) => ?_)
      refine pk_ite ?_ ?_
      · exact (K_X7_readSign_71 h_8)
      · refine pk_b2 (K_X7_pass h_8) (fun _ s_9 (h_10 : KV 0 2 v0 s_9) => ?_)
        refine pk_ite ?_ ?_
        · exact (K_X7_readSign_71 h_10)
        · exact pk_some h_10
theorem K_X7_readShift_97 {v0 : Int32} {s : mG} (h : KV 0 2 v0 s) : pk (F_X7_readShift_97 s) (fun τ => KV 0 2 v0 τ.2) := by
  unfold F_X7_readShift_97
  exact pk_some h
theorem K_X7_readShift {v0 : Int32} {s : mG} (h : KV 0 2 v0 s) : pk (F_X7_readShift s) (fun τ => KV 0 2 v0 τ.2) := by
  unfold F_X7_readShift
  refine pk_b2 (K_X7_readHead h) (fun _ s_1 (h_2 : KV 0 2 v0 s_1) => ?_)
  refine pk_ite ?_ ?_
  · exact (K_X7_readShift_97 h_2)
  · refine pk_b2 (K_X7_readNamed h_2) (fun _ s_3 (h_4 : KV 0 2 v0 s_3) => ?_)
    refine pk_ite ?_ ?_
    · exact (K_X7_readShift_97 h_4)
    · refine pk_b2 (K_X7_readNamed h_4) (fun _ s_5 (h_6 : KV 0 2 v0 s_5) => ?_)
      refine pk_ite ?_ ?_
      · exact (K_X7_readShift_97 h_6)
      · refine pk_b2 (K_X7_readNamed h_6) (fun _ s_7 (h_8 : KV 0 2 v0 s_7) => ?_)
        refine pk_ite ?_ ?_
        · exact (K_X7_readShift_97 h_8)
        · refine pk_b2 (K_X7_readNamed h_8) (fun _ s_9 (h_10 : KV 0 2 v0 s_9) => ?_)
          refine pk_ite ?_ ?_
          · exact (K_X7_readShift_97 h_10)
          · refine pk_b2 (K_X7_pass h_10) (fun _ s_11 (h_12 : KV 0 2 v0 s_11) => ?_)
            refine pk_ite ?_ ?_
            · exact (K_X7_readShift_97 h_12)
            · exact pk_some h_12
theorem K_X10_push {v0 : Int32} {t : Nat} {a1 : Int32} {s : mG} (h : KV 0 2 v0 s) : pk (F_X10_push t a1 s) (fun τ => KV 0 2 v0 τ) := by
  unfold F_X10_push
  refine pk_ite ?_ ?_
  · exact pk_some h
  · extract_lets +onlyGivenNames s_1
    have h_2 : KV 0 2 v0 s_1 := KV_mu h (Or.inr (by decide))
    clear_value s_1
    refine pk_b1 (K_X10_put h_2) (fun s_3 (h_4 : KV 0 2 v0 s_3) => ?_)
    exact pk_some h_4
theorem K_X7_emitIfAny {v0 : Int32} {a1 : Int32} {s : mG} (h : KV 0 2 v0 s) : pk (F_X7_emitIfAny a1 s) (fun τ => KV 0 2 v0 τ) := by
  unfold F_X7_emitIfAny
  refine pk_ite ?_ ?_
  · exact pk_some h
  · refine pk_b1 (K_X10_push h) (fun s_1 (h_2 : KV 0 2 v0 s_1) => ?_)
    exact pk_some h_2
theorem K_X7_readUnit_68 {v0 : Int32} {s : mG} (h : KV 0 2 v0 s) : pk (F_X7_readUnit_68 s) (fun τ => KV 0 2 v0 τ.2) := by
  unfold F_X7_readUnit_68
  refine pk_b1 (K_X7_stepOn h) (fun s_1 (h_2 : KV 0 2 v0 s_1) => ?_)
  exact pk_some h_2
theorem K_X7_readUnit_62 {v0 : Int32} {s : mG} (h : KV 0 2 v0 s) : pk (F_X7_readUnit_62 s) (fun τ => KV 0 2 v0 τ.2) := by
  unfold F_X7_readUnit_62
  refine pk_b2 (K_X7_refuse h) (fun _ s_1 (h_2 : KV 0 2 v0 s_1) => ?_)
  refine pk_pp ?_
  exact pk_some h_2
theorem K_X7_readUnit {v0 : Int32} {s : mG} (h : KV 0 2 v0 s) : pk (F_X7_readUnit s) (fun τ => KV 0 2 v0 τ.2) := by
  unfold F_X7_readUnit
  extract_lets +onlyGivenNames v_1
  clear_value v_1
  refine pk_ite ?_ ?_
  · refine pk_b1 (K_X10_push h) (fun s_2 (h_3 : KV 0 2 v0 s_2) => ?_)
    exact (K_X7_readUnit_68 h_3)
  · refine pk_ite ?_ ?_
    · exact (K_X7_readUnit_62 h)
    · refine pk_ite ?_ ?_
      · exact (K_X7_readUnit_62 h)
      · refine pk_b1 (K_X10_push h) (fun s_4 (h_5 : KV 0 2 v0 s_4) => ?_)
        exact (K_X7_readUnit_68 h_5)
theorem K_X7_readPart {v0 : Int32} {s : mG} (h : KV 0 2 v0 s) : pk (F_X7_readPart s) (fun τ => KV 0 2 v0 τ.2) := by
  unfold F_X7_readPart
  refine pk_ite ?_ ?_
  · refine pk_ite ?_ ?_
    · refine pk_b2 (K_X7_refuse h) (fun _ s_1 (h_2 : KV 0 2 v0 s_1) => ?_)
      refine pk_pp ?_
      exact pk_some h_2
    · refine pk_b1 (K_X10_push h) (fun s_3 (h_4 : KV 0 2 v0 s_3) => ?_)
      refine pk_b1 (K_X7_stepOn h_4) (fun s_5 (h_6 : KV 0 2 v0 s_5) => ?_)
      exact pk_some h_6
  · refine pk_b2 (K_X7_refuse h) (fun _ s_7 (h_8 : KV 0 2 v0 s_7) => ?_)
    refine pk_pp ?_
    exact pk_some h_8
theorem K_X7_readSum_114 {v0 : Int32} {x1 : Int32} {s : mG} (h : KV 0 2 v0 s) : pk (F_X7_readSum_114 x1 s) (fun τ => KV 0 2 v0 τ.2) := by
  unfold F_X7_readSum_114
  refine pk_b1 (K_X7_emitIfAny h) (fun s_1 (h_2 : KV 0 2 v0 s_1) => ?_)
  exact pk_some h_2
theorem K_X7_readSum_91 {v0 : Int32} {s : mG} (h : KV 0 2 v0 s) : pk (F_X7_readSum_91 s) (fun τ => KV 0 2 v0 τ.2) := by
  unfold F_X7_readSum_91
  exact pk_some h
theorem K_X7_readSum_105 {v0 : Int32} {x1 : Int32} {x2 : Int32} {y1 : Int32} {s : mG} (h : KV 0 2 v0 s) : pk (F_X7_readSum_105 x1 x2 y1 s) (se (fun τ => KV 0 2 v0 τ.2.2) (fun τ => KV 0 2 v0 τ.2)) := by
  unfold F_X7_readSum_105
  refine pk_b1 (K_X7_emitIfAny h) (fun s_1 (h_2 : KV 0 2 v0 s_1) => ?_)
  exact pk_some h_2
theorem K_X7_readSum_93 {v0 : Int32} {x1 : Int32} {x2 : Int32} {x3 : Int32} {s : mG} (h : KV 0 2 v0 s) : pk (F_X7_readSum_93 x1 x2 x3 s) (se (fun τ => KV 0 2 v0 τ.2.2) (fun τ => KV 0 2 v0 τ.2)) := by
  unfold F_X7_readSum_93
  refine pk_ite ?_ ?_
  · exact (K_X7_readSum_105 h)
  · exact (K_X7_readSum_105 h)
theorem K_X7_readSum_68 {v0 : Int32} {x1 : Int32} {x2 : Int32} {x3 : Int32} {s : mG} (h : KV 0 2 v0 s) : pk (F_X7_readSum_68 x1 x2 x3 s) (se (fun τ => KV 0 2 v0 τ.2.2) (fun τ => KV 0 2 v0 τ.2)) := by
  unfold F_X7_readSum_68
  refine pk_ite ?_ ?_
  · refine pk_b2 (K_X7_readPart h) (fun _ s_1 (h_2 : KV 0 2 v0 s_1) => ?_)
    refine pk_ite ?_ ?_
    · refine pk_b1r ?_
      exact (K_X7_readSum_91 h_2)
    · exact (K_X7_readSum_93 h_2)
  · refine pk_b2 (K_X7_readUnit h) (fun _ s_3 (h_4 : KV 0 2 v0 s_3) => ?_)
    refine pk_ite ?_ ?_
    · refine pk_b1r ?_
      exact (K_X7_readSum_91 h_4)
    · exact (K_X7_readSum_93 h_4)
theorem K_X7_readSum_67 {v0 : Int32} {x2 : Int32} {x3 : Int32} {y0 : Int32} {s : mG} (h : KV 0 2 v0 s) : pk (F_X7_readSum_67 x2 x3 y0 s) (se (fun τ => KV 0 2 v0 τ.2.2) (fun τ => KV 0 2 v0 τ.2)) := by
  unfold F_X7_readSum_67
  exact (K_X7_readSum_68 h)
theorem K_X7_readSum_51 {v0 : Int32} {x1 : Int32} {x2 : Int32} {x3 : Int32} {s : mG} (h : KV 0 2 v0 s) : pk (F_X7_readSum_51 x1 x2 x3 s) (se (fun τ => KV 0 2 v0 τ.2.2) (fun τ => KV 0 2 v0 τ.2)) := by
  unfold F_X7_readSum_51
  refine pk_b1 (K_X7_emitIfAny h) (fun s_1 (h_2 : KV 0 2 v0 s_1) => ?_)
  refine pk_ite ?_ ?_
  · exact (K_X7_readSum_67 h_2)
  · exact (K_X7_readSum_67 h_2)
theorem K_X7_readSum_B13 {v0 : Int32} {x1 : Int32} {x2 : Int32} {s : mG} (h : KV 0 2 v0 s) : pk (F_X7_readSum_B13 x1 x2 s) (se (fun τ => KV 0 2 v0 τ.2.2) (fun τ => KV 0 2 v0 τ.2)) := by
  unfold F_X7_readSum_B13
  refine pk_ite ?_ ?_
  · refine pk_b1r ?_
    exact (K_X7_readSum_114 h)
  · refine pk_b1 pk_top (fun _ _ => ?_)
    refine pk_ite ?_ ?_
    · refine pk_b1r ?_
      exact (K_X7_readSum_114 h)
    · refine pk_b1 (K_X7_stepOn h) (fun s_1 (h_2 : KV 0 2 v0 s_1) => ?_)
      refine pk_ite ?_ ?_
      · exact (K_X7_readSum_51 h_2)
      · refine pk_ite ?_ ?_
        · exact (K_X7_readSum_51 h_2)
        · exact (K_X7_readSum_68 h_2)
theorem K_X7_readSum_L13 {v0 : Int32} {x1 : Int32} {x2 : Int32} {s : mG} (h : KV 0 2 v0 s) : pk (F_X7_readSum_L13 x1 x2 s) (fun τ => KV 0 2 v0 τ.2) := by
  unfold F_X7_readSum_L13
  refine pk_whl (fun v => KV 0 2 v0 v.2.2) h (fun v hv => ?_)
  obtain ⟨y0, y1, y2⟩ := v
  exact K_X7_readSum_B13 hv
theorem K_X7_readSum {v0 : Int32} {s : mG} (h : KV 0 2 v0 s) : pk (F_X7_readSum s) (fun τ => KV 0 2 v0 τ.2) := by
  unfold F_X7_readSum
  refine pk_b2 (K_X7_readUnit h) (fun _ s_1 (h_2 : KV 0 2 v0 s_1) => ?_)
  refine pk_ite ?_ ?_
  · exact pk_some h_2
  · exact (K_X7_readSum_L13 h_2)
theorem K_X7_hold {v0 : Int32} {a1 : Int32} {s : mG} (h : KV 0 2 v0 s) : pk (F_X7_hold a1 s) (fun τ => KV 0 2 v0 τ) := by
  unfold F_X7_hold
  refine pk_b1 (K_X11_put (by decide) h) (fun s_1 (h_2 : KV 0 2 v0 s_1) => ?_)
  extract_lets +onlyGivenNames s_3
  have h_4 : KV 0 2 v0 s_3 := KV_mu h_2 (Or.inl (by decide))
  clear_value s_3
  exact pk_some h_4
theorem K_X7_readOpenings_71 {v0 : Int32} {s : mG} (h : KV 0 2 v0 s) : pk (F_X7_readOpenings_71 s) (fun τ => KV 0 2 v0 τ.2) := by
  unfold F_X7_readOpenings_71
  exact pk_some h
theorem K_X7_readOpenings_28 {v0 : Int32} {x1 : Int32} {s : mG} (h : KV 0 2 v0 s) : pk (F_X7_readOpenings_28 x1 s) (se (fun τ => KV 0 2 v0 τ.2) (fun τ => KV 0 2 v0 τ.2)) := by
  unfold F_X7_readOpenings_28
  refine pk_ite ?_ ?_
  · refine pk_b1 (K_X7_hold h) (fun s_1 (h_2 : KV 0 2 v0 s_1) => ?_)
    extract_lets +onlyGivenNames s_3
    have h_4 : KV 0 2 v0 s_3 := KV_mu h_2 (Or.inl (by decide))
    clear_value s_3
    refine pk_b1 (K_X7_stepOn h_4) (fun s_5 (h_6 : KV 0 2 v0 s_5) => ?_)
    exact pk_some h_6
  · refine pk_b2 (K_X7_refuse h) (fun _ s_7 (h_8 : KV 0 2 v0 s_7) => ?_)
    refine pk_pp ?_
    exact pk_some h_8
theorem K_X7_readOpenings_B2 {v0 : Int32} {x1 : Int32} {s : mG} (h : KV 0 2 v0 s) : pk (F_X7_readOpenings_B2 x1 s) (se (fun τ => KV 0 2 v0 τ.2) (fun τ => KV 0 2 v0 τ.2)) := by
  unfold F_X7_readOpenings_B2
  refine pk_ite ?_ ?_
  · refine pk_b1r ?_
    exact (K_X7_readOpenings_71 h)
  · refine pk_ite ?_ ?_
    · exact (K_X7_readOpenings_28 h)
    · refine pk_ite ?_ ?_
      · exact (K_X7_readOpenings_28 h)
      · refine pk_b1r ?_
        exact (K_X7_readOpenings_71 h)
theorem K_X7_readOpenings_L2 {v0 : Int32} {x1 : Int32} {s : mG} (h : KV 0 2 v0 s) : pk (F_X7_readOpenings_L2 x1 s) (fun τ => KV 0 2 v0 τ.2) := by
  unfold F_X7_readOpenings_L2
  refine pk_whl (fun v => KV 0 2 v0 v.2) h (fun v hv => ?_)
  obtain ⟨y0, y1⟩ := v
  exact K_X7_readOpenings_B2 hv
theorem K_X7_readOpenings {v0 : Int32} {s : mG} (h : KV 0 2 v0 s) : pk (F_X7_readOpenings s) (fun τ => KV 0 2 v0 τ.2) := by
  unfold F_X7_readOpenings
  exact (K_X7_readOpenings_L2 h)
theorem K_X7_closeNots_B2 {v0 : Int32} {x1 : Int32} {s : mG} (h : KV 0 2 v0 s) : pk (F_X7_closeNots_B2 x1 s) (se (fun τ => KV 0 2 v0 τ.2) (fun τ => KV 0 2 v0 τ)) := by
  unfold F_X7_closeNots_B2
  refine pk_ite ?_ ?_
  · exact pk_some h
  · refine pk_b1 pk_top (fun _ _ => ?_)
    refine pk_ite ?_ ?_
    · refine pk_b1 (K_X10_push h) (fun s_1 (h_2 : KV 0 2 v0 s_1) => ?_)
      extract_lets +onlyGivenNames s_3
      have h_4 : KV 0 2 v0 s_3 := KV_mu h_2 (Or.inl (by decide))
      clear_value s_3
      extract_lets +onlyGivenNames s_5
      have h_6 : KV 0 2 v0 s_5 := KV_mu h_4 (Or.inl (by decide))
      clear_value s_5
      exact pk_some h_6
    · exact pk_some h
theorem K_X7_closeNots_L2 {v0 : Int32} {x1 : Int32} {s : mG} (h : KV 0 2 v0 s) : pk (F_X7_closeNots_L2 x1 s) (fun τ => KV 0 2 v0 τ) := by
  unfold F_X7_closeNots_L2
  refine pk_whl (fun v => KV 0 2 v0 v.2) h (fun v hv => ?_)
  obtain ⟨y0, y1⟩ := v
  exact K_X7_closeNots_B2 hv
theorem K_X7_closeNots {v0 : Int32} {s : mG} (h : KV 0 2 v0 s) : pk (F_X7_closeNots s) (fun τ => KV 0 2 v0 τ) := by
  unfold F_X7_closeNots
  exact (K_X7_closeNots_L2 h)
theorem K_X7_joinWhatWaits_50 {v0 : Int32} {x1 : Int32} {x2 : Int32} {y1 : Int32} {s : mG} (h : KV 0 2 v0 s) : pk (F_X7_joinWhatWaits_50 x1 x2 y1 s) (se (fun τ => KV 0 2 v0 τ.2.2) (fun τ => KV 0 2 v0 τ)) := by
  unfold F_X7_joinWhatWaits_50
  refine pk_b1 (K_X10_push h) (fun s_1 (h_2 : KV 0 2 v0 s_1) => ?_)
  extract_lets +onlyGivenNames s_3
  have h_4 : KV 0 2 v0 s_3 := KV_mu h_2 (Or.inl (by decide))
  clear_value s_3
  exact pk_some h_4
theorem K_X7_joinWhatWaits_32 {v0 : Int32} {x1 : Int32} {x2 : Int32} {x3 : Int32} {s : mG} (h : KV 0 2 v0 s) : pk (F_X7_joinWhatWaits_32 x1 x2 x3 s) (se (fun τ => KV 0 2 v0 τ.2.2) (fun τ => KV 0 2 v0 τ)) := by
  unfold F_X7_joinWhatWaits_32
  refine pk_ite ?_ ?_
  · exact (K_X7_joinWhatWaits_50 h)
  · exact (K_X7_joinWhatWaits_50 h)
theorem K_X7_joinWhatWaits_B2 {v0 : Int32} {x1 : Int32} {x2 : Int32} {s : mG} (h : KV 0 2 v0 s) : pk (F_X7_joinWhatWaits_B2 x1 x2 s) (se (fun τ => KV 0 2 v0 τ.2.2) (fun τ => KV 0 2 v0 τ)) := by
  unfold F_X7_joinWhatWaits_B2
  refine pk_ite ?_ ?_
  · exact pk_some h
  · refine pk_b1 pk_top (fun _ _ => ?_)
    refine pk_ite ?_ ?_
    · exact (K_X7_joinWhatWaits_32 h)
    · refine pk_ite ?_ ?_
      · refine pk_ite ?_ ?_
        · exact (K_X7_joinWhatWaits_32 h)
        · exact pk_some h
      · exact pk_some h
theorem K_X7_joinWhatWaits_L2 {v0 : Int32} {x1 : Int32} {x2 : Int32} {s : mG} (h : KV 0 2 v0 s) : pk (F_X7_joinWhatWaits_L2 x1 x2 s) (fun τ => KV 0 2 v0 τ) := by
  unfold F_X7_joinWhatWaits_L2
  refine pk_whl (fun v => KV 0 2 v0 v.2.2) h (fun v hv => ?_)
  obtain ⟨y0, y1, y2⟩ := v
  exact K_X7_joinWhatWaits_B2 hv
theorem K_X7_joinWhatWaits {v0 : Int32} {a1 : Int32} {s : mG} (h : KV 0 2 v0 s) : pk (F_X7_joinWhatWaits a1 s) (fun τ => KV 0 2 v0 τ) := by
  unfold F_X7_joinWhatWaits
  exact (K_X7_joinWhatWaits_L2 h)
theorem K_X7_readClosings_B6 {v0 : Int32} {x1 : Int32} {s : mG} (h : KV 0 2 v0 s) : pk (F_X7_readClosings_B6 x1 s) (se (fun τ => KV 0 2 v0 τ.2) (fun τ => KV 0 2 v0 τ)) := by
  unfold F_X7_readClosings_B6
  refine pk_ite ?_ ?_
  · exact pk_some h
  · refine pk_ite ?_ ?_
    · refine pk_ite ?_ ?_
      · exact pk_some h
      · refine pk_b1 (K_X7_joinWhatWaits h) (fun s_1 (h_2 : KV 0 2 v0 s_1) => ?_)
        extract_lets +onlyGivenNames s_3
        have h_4 : KV 0 2 v0 s_3 := KV_mu h_2 (Or.inl (by decide))
        clear_value s_3
        extract_lets +onlyGivenNames s_5
        have h_6 : KV 0 2 v0 s_5 := KV_mu h_4 (Or.inl (by decide))
        clear_value s_5
        refine pk_b1 (K_X7_stepOn h_6) (fun s_7 (h_8 : KV 0 2 v0 s_7) => ?_)
        refine pk_b1 (K_X7_closeNots h_8) (fun s_9 (h_10 : KV 0 2 v0 s_9) => ?_)
        exact pk_some h_10
    · exact pk_some h
theorem K_X7_readClosings_L6 {v0 : Int32} {x1 : Int32} {s : mG} (h : KV 0 2 v0 s) : pk (F_X7_readClosings_L6 x1 s) (fun τ => KV 0 2 v0 τ) := by
  unfold F_X7_readClosings_L6
  refine pk_whl (fun v => KV 0 2 v0 v.2) h (fun v hv => ?_)
  obtain ⟨y0, y1⟩ := v
  exact K_X7_readClosings_B6 hv
theorem K_X7_readClosings {v0 : Int32} {s : mG} (h : KV 0 2 v0 s) : pk (F_X7_readClosings s) (fun τ => KV 0 2 v0 τ) := by
  unfold F_X7_readClosings
  refine pk_b1 (K_X7_closeNots h) (fun s_1 (h_2 : KV 0 2 v0 s_1) => ?_)
  exact (K_X7_readClosings_L6 h_2)
theorem K_X7_readCondition_33 {v0 : Int32} {s : mG} (h : KV 0 2 v0 s) : pk (F_X7_readCondition_33 s) (fun τ => KV 0 2 v0 τ.2) := by
  unfold F_X7_readCondition_33
  exact pk_some h
theorem K_X7_readCondition_140 {v0 : Int32} {x1 : Int32} {s : mG} (h : KV 0 2 v0 s) : pk (F_X7_readCondition_140 x1 s) (se (fun τ => KV 0 2 v0 τ.2) (fun τ => KV 0 2 v0 τ.2)) := by
  unfold F_X7_readCondition_140
  refine pk_b1 (K_X7_hold h) (fun s_1 (h_2 : KV 0 2 v0 s_1) => ?_)
  refine pk_b1 (K_X7_stepOn h_2) (fun s_3 (h_4 : KV 0 2 v0 s_3) => ?_)
  exact pk_some h_4
theorem K_X7_readCondition_134 {v0 : Int32} {s : mG} (h : KV 0 2 v0 s) : pk (F_X7_readCondition_134 s) (fun τ => KV 0 2 v0 τ.2) := by
  unfold F_X7_readCondition_134
  exact pk_some h
theorem K_X7_readCondition_96 {v0 : Int32} {x1 : Int32} {y1 : Int32} {s : mG} (h : KV 0 2 v0 s) : pk (F_X7_readCondition_96 x1 y1 s) (se (fun τ => KV 0 2 v0 τ.2) (fun τ => KV 0 2 v0 τ.2)) := by
  unfold F_X7_readCondition_96
  refine pk_b1 (K_X7_joinWhatWaits h) (fun s_1 (h_2 : KV 0 2 v0 s_1) => ?_)
  refine pk_ite ?_ ?_
  · exact (K_X7_readCondition_140 h_2)
  · refine pk_ite ?_ ?_
    · exact (K_X7_readCondition_140 h_2)
    · refine pk_ite ?_ ?_
      · refine pk_b1r ?_
        exact (K_X7_readCondition_134 h_2)
      · refine pk_b2 (K_X7_refuse h_2) (fun _ s_3 (h_4 : KV 0 2 v0 s_3) => ?_)
        refine pk_ite ?_ ?_
        · exact pk_some h_4
        · refine pk_b1r ?_
          exact (K_X7_readCondition_134 h_4)
theorem K_X7_readCondition_B12 {v0 : Int32} {x1 : Int32} {s : mG} (h : KV 0 2 v0 s) : pk (F_X7_readCondition_B12 x1 s) (se (fun τ => KV 0 2 v0 τ.2) (fun τ => KV 0 2 v0 τ.2)) := by
  unfold F_X7_readCondition_B12
  refine pk_ite ?_ ?_
  · exact pk_some h
  · refine pk_b2 (K_X7_readOpenings h) (fun _ s_1 (h_2 : KV 0 2 v0 s_1) => ?_)
    refine pk_ite ?_ ?_
    · refine pk_b1r ?_
      exact (K_X7_readCondition_33 h_2)
    · refine pk_b2 (K_X7_readSum h_2) (fun _ s_3 (h_4 : KV 0 2 v0 s_3) => ?_)
      refine pk_ite ?_ ?_
      · refine pk_b1r ?_
        exact (K_X7_readCondition_33 h_4)
      · refine pk_b1 pk_top (fun _ _ => ?_)
        refine pk_ite ?_ ?_
        · refine pk_b2 (K_X7_refuse h_4) (fun _ s_5 (h_6 : KV 0 2 v0 s_5) => ?_)
          refine pk_pp ?_
          exact pk_some h_6
        · refine pk_b1 (K_X7_stepOn h_4) (fun s_7 (h_8 : KV 0 2 v0 s_7) => ?_)
          refine pk_b2 (K_X7_readSum h_8) (fun _ s_9 (h_10 : KV 0 2 v0 s_9) => ?_)
          refine pk_ite ?_ ?_
          · exact pk_some h_10
          · refine pk_b1 (K_X10_push h_10) (fun s_11 (h_12 : KV 0 2 v0 s_11) => ?_)
            refine pk_b1 (K_X7_readClosings h_12) (fun s_13 (h_14 : KV 0 2 v0 s_13) => ?_)
            refine pk_ite ?_ ?_
            · exact (K_X7_readCondition_96 h_14)
            · exact (K_X7_readCondition_96 h_14)
theorem K_X7_readCondition_L12 {v0 : Int32} {x1 : Int32} {s : mG} (h : KV 0 2 v0 s) : pk (F_X7_readCondition_L12 x1 s) (fun τ => KV 0 2 v0 τ.2) := by
  unfold F_X7_readCondition_L12
  refine pk_whl (fun v => KV 0 2 v0 v.2) h (fun v hv => ?_)
  obtain ⟨y0, y1⟩ := v
  exact K_X7_readCondition_B12 hv
theorem K_X7_readCondition {v0 : Int32} {s : mG} (h : KV 0 2 v0 s) : pk (F_X7_readCondition s) (fun τ => KV 0 2 v0 τ.2) := by
  unfold F_X7_readCondition
  extract_lets +onlyGivenNames s_1
  have h_2 : KV 0 2 v0 s_1 := KV_mu h (Or.inl (by decide))
  clear_value s_1
  extract_lets +onlyGivenNames s_3
  have h_4 : KV 0 2 v0 s_3 := KV_mu h_2 (Or.inl (by decide))
  clear_value s_3
  exact (K_X7_readCondition_L12 h_4)
theorem K_X7_readLaw_126 {v0 : Int32} {x1 : Int32} {s : mG} (h : KV 0 2 v0 s) : pk (F_X7_readLaw_126 x1 s) (fun τ => KV 0 2 v0 τ.2) := by
  unfold F_X7_readLaw_126
  refine pk_b1 (K_X10_put h) (fun s_1 (h_2 : KV 0 2 v0 s_1) => ?_)
  refine pk_b2 (K_X7_pass h_2) (fun _ s_3 (h_4 : KV 0 2 v0 s_3) => ?_)
  refine pk_pp ?_
  exact pk_some h_4
theorem K_X7_readLaw {v0 : Int32} {s : mG} (h : KV 0 2 v0 s) : pk (F_X7_readLaw s) (fun τ => KV 0 2 v0 τ.2) := by
  unfold F_X7_readLaw
  refine pk_b1 pk_top (fun _ _ => ?_)
  refine pk_ite ?_ ?_
  · refine pk_b2 (K_X7_refuse h) (fun _ s_1 (h_2 : KV 0 2 v0 s_1) => ?_)
    refine pk_pp ?_
    exact pk_some h_2
  · refine pk_b2 (K_X10_add h) (fun _ s_3 (h_4 : KV 0 2 v0 s_3) => ?_)
    refine pk_ite ?_ ?_
    · refine pk_b2 (K_X7_refuse h_4) (fun _ s_5 (h_6 : KV 0 2 v0 s_5) => ?_)
      refine pk_pp ?_
      exact pk_some h_6
    · refine pk_b1 (K_X10_put h_4) (fun s_7 (h_8 : KV 0 2 v0 s_7) => ?_)
      refine pk_b1 (K_X10_put h_8) (fun s_9 (h_10 : KV 0 2 v0 s_9) => ?_)
      refine pk_b1 (K_X7_stepOn h_10) (fun s_11 (h_12 : KV 0 2 v0 s_11) => ?_)
      refine pk_b2 (K_X7_readSum h_12) (fun _ s_13 (h_14 : KV 0 2 v0 s_13) => ?_)
      refine pk_ite ?_ ?_
      · exact pk_some h_14
      · refine pk_b1 (K_X10_put h_14) (fun s_15 (h_16 : KV 0 2 v0 s_15) => ?_)
        refine pk_ite ?_ ?_
        · refine pk_b1 (K_X7_stepOn h_16) (fun s_17 (h_18 : KV 0 2 v0 s_17) => ?_)
          refine pk_b2 (K_X7_readCondition h_18) (fun _ s_19 (h_20 : KV 0 2 v0 s_19) => ?_)
          refine pk_ite ?_ ?_
          · exact pk_some h_20
          · exact (K_X7_readLaw_126 h_20)
        · exact (K_X7_readLaw_126 h_16)
theorem K_X7_readText_19 {v0 : Int32} {s : mG} (h : KV 0 2 v0 s) : pk (F_X7_readText_19 s) (fun τ => KV 0 2 v0 τ.2) := by
  unfold F_X7_readText_19
  exact pk_some h
theorem K_X7_readText_119 {v0 : Int32} {s : mG} (h : KV 0 2 v0 s) : pk (F_X7_readText_119 s) (fun τ => KV 0 2 v0 τ.2) := by
  unfold F_X7_readText_119
  exact pk_some h
theorem K_X7_readText_106 {v0 : Int32} {x1 : Int32} {x2 : Int32} {y0 : Int32} {s : mG} (h : KV 0 2 v0 s) : pk (F_X7_readText_106 x1 x2 y0 s) (se (fun τ => KV 0 2 v0 τ.2.2) (fun τ => KV 0 2 v0 τ.2)) := by
  unfold F_X7_readText_106
  refine pk_ite ?_ ?_
  · exact pk_some h
  · exact pk_some h
theorem K_X7_readText_B64 {v0 : Int32} {x1 : Int32} {x2 : Int32} {s : mG} (h : KV 0 2 v0 s) : pk (F_X7_readText_B64 x1 x2 s) (se (fun τ => KV 0 2 v0 τ.2.2) (fun τ => KV 0 2 v0 τ.2)) := by
  unfold F_X7_readText_B64
  refine pk_ite ?_ ?_
  · refine pk_b1r ?_
    exact (K_X7_readText_119 h)
  · refine pk_ite ?_ ?_
    · refine pk_b1r ?_
      exact (K_X7_readText_119 h)
    · refine pk_ite ?_ ?_
      · refine pk_b2 (K_X7_readLaw h) (fun _ s_1 (h_2 : KV 0 2 v0 s_1) => ?_)
        exact (K_X7_readText_106 h_2)
      · refine pk_ite ?_ ?_
        · refine pk_b2 (K_X7_readSign h) (fun _ s_3 (h_4 : KV 0 2 v0 s_3) => ?_)
          exact (K_X7_readText_106 h_4)
        · refine pk_b2 (K_X7_readShift h) (fun _ s_5 (h_6 : KV 0 2 v0 s_5) => ?_)
          exact (K_X7_readText_106 h_6)
theorem K_X7_readText_L64 {v0 : Int32} {x1 : Int32} {x2 : Int32} {s : mG} (h : KV 0 2 v0 s) : pk (F_X7_readText_L64 x1 x2 s) (fun τ => KV 0 2 v0 τ.2) := by
  unfold F_X7_readText_L64
  refine pk_whl (fun v => KV 0 2 v0 v.2.2) h (fun v hv => ?_)
  obtain ⟨y0, y1, y2⟩ := v
  exact K_X7_readText_B64 hv
theorem K_X7_readText {v0 : Int32} {a1 : Int32} {s : mG} (h : KV 0 2 v0 s) : pk (F_X7_readText a1 s) (fun τ => KV 0 2 v0 τ.2) := by
  unfold F_X7_readText
  extract_lets +onlyGivenNames s_1
  have h_2 : KV 0 2 v0 s_1 := KV_mu h (Or.inl (by decide))
  clear_value s_1
  extract_lets +onlyGivenNames s_3
  have h_4 : KV 0 2 v0 s_3 := KV_mu h_2 (Or.inl (by decide))
  clear_value s_3
  refine pk_ite ?_ ?_
  · exact (K_X7_readText_19 h_4)
  · refine pk_ite ?_ ?_
    · refine pk_b1 (K_X7_splitTape h_4) (fun s_5 (h_6 : KV 0 2 v0 s_5) => ?_)
      refine pk_b1 (K_X10_clear h_6) (fun s_7 (h_8 : KV 0 2 v0 s_7) => ?_)
      refine pk_b1 (K_X10_clear h_8) (fun s_9 (h_10 : KV 0 2 v0 s_9) => ?_)
      refine pk_b1 (K_X10_clear h_10) (fun s_11 (h_12 : KV 0 2 v0 s_11) => ?_)
      refine pk_b1 (K_X10_clear h_12) (fun s_13 (h_14 : KV 0 2 v0 s_13) => ?_)
      extract_lets +onlyGivenNames s_15
      have h_16 : KV 0 2 v0 s_15 := KV_mu h_14 (Or.inl (by decide))
      clear_value s_15
      refine pk_b1 (K_X7_stepOn h_16) (fun s_17 (h_18 : KV 0 2 v0 s_17) => ?_)
      exact (K_X7_readText_L64 h_18)
    · exact (K_X7_readText_19 h_4)
theorem K_X9_roomAt_B51 {v0 : Int32} {x1 : Int32} {x2 : Int32} {s : mG} (h : KV 0 2 v0 s) : pk (F_X9_roomAt_B51 x1 x2 s) (se (fun τ => KV 0 2 v0 τ.2.2) (fun τ => KV 0 2 v0 τ.2)) := by
  unfold F_X9_roomAt_B51
  refine pk_ite ?_ ?_
  · exact pk_some h
  · refine pk_b1 pk_top (fun _ _ => ?_)
    refine pk_ite ?_ ?_
    · exact pk_some h
    · exact pk_some h
theorem K_X9_roomAt_L51 {v0 : Int32} {x1 : Int32} {x2 : Int32} {s : mG} (h : KV 0 2 v0 s) : pk (F_X9_roomAt_L51 x1 x2 s) (fun τ => KV 0 2 v0 τ.2) := by
  unfold F_X9_roomAt_L51
  refine pk_whl (fun v => KV 0 2 v0 v.2.2) h (fun v hv => ?_)
  obtain ⟨y0, y1, y2⟩ := v
  exact K_X9_roomAt_B51 hv
theorem K_X9_roomAt_B2 {v0 : Int32} {x1 : Int32} {x2 : Int32} {s : mG} (h : KV 0 2 v0 s) : pk (F_X9_roomAt_B2 x1 x2 s) (se (fun τ => KV 0 2 v0 τ.2.2) (fun τ => KV 0 2 v0 τ.2)) := by
  unfold F_X9_roomAt_B2
  refine pk_ite ?_ ?_
  · refine pk_b1r ?_
    exact (K_X9_roomAt_L51 h)
  · refine pk_b1 pk_top (fun _ _ => ?_)
    refine pk_b2 (K_X0_sureOf h) (fun _ s_1 (h_2 : KV 0 2 v0 s_1) => ?_)
    refine pk_b1 (K_X11_put (by decide) h_2) (fun s_3 (h_4 : KV 0 2 v0 s_3) => ?_)
    exact pk_some h_4
theorem K_X9_roomAt_L2 {v0 : Int32} {x1 : Int32} {x2 : Int32} {s : mG} (h : KV 0 2 v0 s) : pk (F_X9_roomAt_L2 x1 x2 s) (fun τ => KV 0 2 v0 τ.2) := by
  unfold F_X9_roomAt_L2
  refine pk_whl (fun v => KV 0 2 v0 v.2.2) h (fun v hv => ?_)
  obtain ⟨y0, y1, y2⟩ := v
  exact K_X9_roomAt_B2 hv
theorem K_X9_roomAt {v0 : Int32} {a1 : Int32} {s : mG} (h : KV 0 2 v0 s) : pk (F_X9_roomAt a1 s) (fun τ => KV 0 2 v0 τ.2) := by
  unfold F_X9_roomAt
  exact (K_X9_roomAt_L2 h)
theorem K_X9_searchOn_148 {v0 : Int32} {rec : Int32 → Int32 → Int32 → Int32 → Int64 → mG → Option (mG)} {x1 : Int32} {x2 : Int32} {x3 : Int32} {x4 : Int32} {x5 : Int64} {x7 : Int32} {s : mG} (hrec : ∀ (b0 : Int32) (b1 : Int32) (b2 : Int32) (b3 : Int32) (b4 : Int64) (r : mG), KV 0 2 v0 r → pk (rec b0 b1 b2 b3 b4 r) (fun τ => KV 0 2 v0 τ)) (h : KV 0 2 v0 s) : pk (F_X9_searchOn_148 rec x1 x2 x3 x4 x5 x7 s) (se (fun τ => KV 0 2 v0 τ.2.2.2.2.2.2) (fun τ => KV 0 2 v0 τ)) := by
  unfold F_X9_searchOn_148
  exact pk_some h
theorem K_X9_searchOn_B65 {v0 : Int32} {rec : Int32 → Int32 → Int32 → Int32 → Int64 → mG → Option (mG)} {x1 : Int32} {x2 : Int32} {x3 : Int32} {x4 : Int32} {x5 : Int64} {x7 : Int32} {s : mG} (hrec : ∀ (b0 : Int32) (b1 : Int32) (b2 : Int32) (b3 : Int32) (b4 : Int64) (r : mG), KV 0 2 v0 r → pk (rec b0 b1 b2 b3 b4 r) (fun τ => KV 0 2 v0 τ)) (h : KV 0 2 v0 s) : pk (F_X9_searchOn_B65 rec x1 x2 x3 x4 x5 x7 s) (se (fun τ => KV 0 2 v0 τ.2.2.2.2.2.2) (fun τ => KV 0 2 v0 τ)) := by
  unfold F_X9_searchOn_B65
  refine pk_ite ?_ ?_
  · exact pk_some h
  · refine pk_ite ?_ ?_
    · exact pk_some h
    · extract_lets +onlyGivenNames v_1
      clear_value v_1
      refine pk_ite ?_ ?_
      · refine pk_ite ?_ ?_
        · exact (K_X9_searchOn_148 hrec h)
        · refine pk_b1 (K_X11_put (by decide) h) (fun s_2 (h_3 : KV 0 2 v0 s_2) => ?_)
          refine pk_b1 pk_top (fun _ _ => ?_)
          refine pk_b1 (hrec _ _ _ _ _ _ h_3) (fun s_4 (h_5 : KV 0 2 v0 s_4) => ?_)
          exact (K_X9_searchOn_148 hrec h_5)
      · exact (K_X9_searchOn_148 hrec h)
theorem K_X9_searchOn_L65 {v0 : Int32} {rec : Int32 → Int32 → Int32 → Int32 → Int64 → mG → Option (mG)} {x1 : Int32} {x2 : Int32} {x3 : Int32} {x4 : Int32} {x5 : Int64} {x7 : Int32} {s : mG} (hrec : ∀ (b0 : Int32) (b1 : Int32) (b2 : Int32) (b3 : Int32) (b4 : Int64) (r : mG), KV 0 2 v0 r → pk (rec b0 b1 b2 b3 b4 r) (fun τ => KV 0 2 v0 τ)) (h : KV 0 2 v0 s) : pk (F_X9_searchOn_L65 rec x1 x2 x3 x4 x5 x7 s) (fun τ => KV 0 2 v0 τ) := by
  unfold F_X9_searchOn_L65
  refine pk_whl (fun v => KV 0 2 v0 v.2.2.2.2.2.2) h (fun v hv => ?_)
  obtain ⟨y0, y1, y2, y3, y4, y5, y6⟩ := v
  exact K_X9_searchOn_B65 hrec hv
theorem K_X9_searchOn_62 {v0 : Int32} {rec : Int32 → Int32 → Int32 → Int32 → Int64 → mG → Option (mG)} {x1 : Int32} {x2 : Int32} {x3 : Int32} {x4 : Int32} {x5 : Int64} {s : mG} (hrec : ∀ (b0 : Int32) (b1 : Int32) (b2 : Int32) (b3 : Int32) (b4 : Int64) (r : mG), KV 0 2 v0 r → pk (rec b0 b1 b2 b3 b4 r) (fun τ => KV 0 2 v0 τ)) (h : KV 0 2 v0 s) : pk (F_X9_searchOn_62 rec x1 x2 x3 x4 x5 s) (fun τ => KV 0 2 v0 τ) := by
  unfold F_X9_searchOn_62
  exact (K_X9_searchOn_L65 hrec h)
theorem K_X9_searchOn_B25 {v0 : Int32} {rec : Int32 → Int32 → Int32 → Int32 → Int64 → mG → Option (mG)} {x1 : Int32} {x2 : Int32} {x3 : Int32} {x4 : Int32} {x5 : Int64} {x7 : Int32} {s : mG} (hrec : ∀ (b0 : Int32) (b1 : Int32) (b2 : Int32) (b3 : Int32) (b4 : Int64) (r : mG), KV 0 2 v0 r → pk (rec b0 b1 b2 b3 b4 r) (fun τ => KV 0 2 v0 τ)) (h : KV 0 2 v0 s) : pk (F_X9_searchOn_B25 rec x1 x2 x3 x4 x5 x7 s) (se (fun τ => KV 0 2 v0 τ.2.2.2.2.2.2) (fun τ => KV 0 2 v0 τ)) := by
  unfold F_X9_searchOn_B25
  refine pk_ite ?_ ?_
  · refine pk_b1r ?_
    exact (K_X9_searchOn_62 hrec h)
  · refine pk_ite ?_ ?_
    · refine pk_b1r ?_
      exact (K_X9_searchOn_62 hrec h)
    · refine pk_b1 pk_top (fun _ _ => ?_)
      refine pk_b1 (K_X11_put (by decide) h) (fun s_1 (h_2 : KV 0 2 v0 s_1) => ?_)
      exact pk_some h_2
theorem K_X9_searchOn_L25 {v0 : Int32} {rec : Int32 → Int32 → Int32 → Int32 → Int64 → mG → Option (mG)} {x1 : Int32} {x2 : Int32} {x3 : Int32} {x4 : Int32} {x5 : Int64} {x7 : Int32} {s : mG} (hrec : ∀ (b0 : Int32) (b1 : Int32) (b2 : Int32) (b3 : Int32) (b4 : Int64) (r : mG), KV 0 2 v0 r → pk (rec b0 b1 b2 b3 b4 r) (fun τ => KV 0 2 v0 τ)) (h : KV 0 2 v0 s) : pk (F_X9_searchOn_L25 rec x1 x2 x3 x4 x5 x7 s) (fun τ => KV 0 2 v0 τ) := by
  unfold F_X9_searchOn_L25
  refine pk_whl (fun v => KV 0 2 v0 v.2.2.2.2.2.2) h (fun v hv => ?_)
  obtain ⟨y0, y1, y2, y3, y4, y5, y6⟩ := v
  exact K_X9_searchOn_B25 hrec hv
theorem K_X9_searchOn {v0 : Int32} {rec : Int32 → Int32 → Int32 → Int32 → Int64 → mG → Option (mG)} {a1 : Int32} {a2 : Int32} {a3 : Int32} {a4 : Int32} {a5 : Int64} {s : mG} (hrec : ∀ (b0 : Int32) (b1 : Int32) (b2 : Int32) (b3 : Int32) (b4 : Int64) (r : mG), KV 0 2 v0 r → pk (rec b0 b1 b2 b3 b4 r) (fun τ => KV 0 2 v0 τ)) (h : KV 0 2 v0 s) : pk (F_X9_searchOn rec a1 a2 a3 a4 a5 s) (fun τ => KV 0 2 v0 τ) := by
  unfold F_X9_searchOn
  refine pk_ite ?_ ?_
  · exact (K_X9_searchOn_62 hrec h)
  · extract_lets +onlyGivenNames s_1
    have h_2 : KV 0 2 v0 s_1 := h
    clear_value s_1
    extract_lets +onlyGivenNames s_3
    have h_4 : KV 0 2 v0 s_3 := KV_mu h_2 (Or.inl (by decide))
    clear_value s_3
    exact (K_X9_searchOn_L25 hrec h_4)
theorem K_Q_X9_searchOn {v0 : Int32} : ∀ (n : Nat) (a0 : Int32) (a1 : Int32) (a2 : Int32) (a3 : Int32) (a4 : Int64) (s : mG), KV 0 2 v0 s → pk (Q_X9_searchOn n a0 a1 a2 a3 a4 s) (fun τ => KV 0 2 v0 τ)
  | 0, _, _, _, _, _, _, _ => pk_none
  | n + 1, _, _, _, _, _, _, h => K_X9_searchOn (fun a0 a1 a2 a3 a4 s h => K_Q_X9_searchOn n a0 a1 a2 a3 a4 s h) h
theorem K_R_X9_searchOn {v0 : Int32} {a0 : Int32} {a1 : Int32} {a2 : Int32} {a3 : Int32} {a4 : Int64} {s : mG} (h : KV 0 2 v0 s) : pk (R_X9_searchOn a0 a1 a2 a3 a4 s) (fun τ => KV 0 2 v0 τ) := K_Q_X9_searchOn 5 a0 a1 a2 a3 a4 s h
theorem K_X9_searchFloors_B26 {v0 : Int32} {x1 : Int32} {x2 : Int32} {s : mG} (h : KV 0 2 v0 s) : pk (F_X9_searchFloors_B26 x1 x2 s) (se (fun τ => KV 0 2 v0 τ.2.2) (fun τ => KV 0 2 v0 τ)) := by
  unfold F_X9_searchFloors_B26
  refine pk_ite ?_ ?_
  · extract_lets +onlyGivenNames s_1
    have h_2 : KV 0 2 v0 s_1 := h
    clear_value s_1
    extract_lets +onlyGivenNames s_3
    have h_4 : KV 0 2 v0 s_3 := KV_mu h_2 (Or.inl (by decide))
    clear_value s_3
    refine pk_b1 (K_X9_searchOn (fun _ _ _ _ _ _ h => K_R_X9_searchOn h) h_4) (fun s_5 (h_6 : KV 0 2 v0 s_5) => ?_)
    exact pk_some h_6
  · refine pk_b1 pk_top (fun _ _ => ?_)
    refine pk_b1 pk_top (fun _ _ => ?_)
    refine pk_b2 (K_X0_sureOf h) (fun _ s_7 (h_8 : KV 0 2 v0 s_7) => ?_)
    refine pk_b1 (K_X11_put (by decide) h_8) (fun s_9 (h_10 : KV 0 2 v0 s_9) => ?_)
    exact pk_some h_10
theorem K_X9_searchFloors_L26 {v0 : Int32} {x1 : Int32} {x2 : Int32} {s : mG} (h : KV 0 2 v0 s) : pk (F_X9_searchFloors_L26 x1 x2 s) (fun τ => KV 0 2 v0 τ) := by
  unfold F_X9_searchFloors_L26
  refine pk_whl (fun v => KV 0 2 v0 v.2.2) h (fun v hv => ?_)
  obtain ⟨y0, y1, y2⟩ := v
  exact K_X9_searchFloors_B26 hv
theorem K_X9_searchFloors_B2 {v0 : Int32} {x1 : Int32} {x2 : Int32} {s : mG} (h : KV 0 2 v0 s) : pk (F_X9_searchFloors_B2 x1 x2 s) (se (fun τ => KV 0 2 v0 τ.2.2) (fun τ => KV 0 2 v0 τ)) := by
  unfold F_X9_searchFloors_B2
  refine pk_ite ?_ ?_
  · refine pk_b1r ?_
    exact (K_X9_searchFloors_L26 h)
  · refine pk_nn ?_
    extract_lets +onlyGivenNames s_1
    have h_2 : KV 0 2 v0 s_1 := KV_mu h (Or.inl (by decide))
    clear_value s_1
    exact pk_some h_2
theorem K_X9_searchFloors_L2 {v0 : Int32} {x1 : Int32} {x2 : Int32} {s : mG} (h : KV 0 2 v0 s) : pk (F_X9_searchFloors_L2 x1 x2 s) (fun τ => KV 0 2 v0 τ) := by
  unfold F_X9_searchFloors_L2
  refine pk_whl (fun v => KV 0 2 v0 v.2.2) h (fun v hv => ?_)
  obtain ⟨y0, y1, y2⟩ := v
  exact K_X9_searchFloors_B2 hv
theorem K_X9_searchFloors {v0 : Int32} {a1 : Int32} {s : mG} (h : KV 0 2 v0 s) : pk (F_X9_searchFloors a1 s) (fun τ => KV 0 2 v0 τ) := by
  unfold F_X9_searchFloors
  exact (K_X9_searchFloors_L2 h)
theorem K_X11_state {v0 : Int32} {a1 : Int32} {s : mG} (h : KV 0 2 v0 s) : pk (F_X11_state a1 s) (fun τ => KV 0 2 v0 τ.2) := by
  unfold F_X11_state
  extract_lets +onlyGivenNames s_1
  have h_2 : KV 0 2 v0 s_1 := KV_mu h (Or.inl (by decide))
  clear_value s_1
  refine pk_b1 (K_X5_forget h_2) (fun s_3 (h_4 : KV 0 2 v0 s_3) => ?_)
  exact pk_some h_4
theorem K_X11_guest_32 {v0 : Int32} {s : mG} (h : KV 0 2 v0 s) : pk (F_X11_guest_32 s) (fun τ => KV 0 2 v0 τ.2) := by
  unfold F_X11_guest_32
  exact pk_some h
theorem K_X11_guest {v0 : Int32} {a1 : Int32} {a2 : Int32} {s : mG} (h : KV 0 2 v0 s) : pk (F_X11_guest a1 a2 s) (fun τ => KV 0 2 v0 τ.2) := by
  unfold F_X11_guest
  refine pk_b1 pk_top (fun _ _ => ?_)
  refine pk_ite ?_ ?_
  · exact (K_X11_guest_32 h)
  · refine pk_b1 pk_top (fun _ _ => ?_)
    refine pk_ite ?_ ?_
    · exact (K_X11_guest_32 h)
    · refine pk_b1 pk_top (fun _ _ => ?_)
      refine pk_ite ?_ ?_
      · refine pk_b1 (K_X5_forget h) (fun s_1 (h_2 : KV 0 2 v0 s_1) => ?_)
        refine pk_b2 (K_X2_addGuest h_2) (fun _ s_3 (h_4 : KV 0 2 v0 s_3) => ?_)
        exact pk_some h_4
      · exact (K_X11_guest_32 h)
theorem K_X11_set_56 {v0 : Int32} {s : mG} (h : KV 0 2 v0 s) : pk (F_X11_set_56 s) (fun τ => KV 0 2 v0 τ.2) := by
  unfold F_X11_set_56
  refine pk_b1 (K_X5_forget h) (fun s_1 (h_2 : KV 0 2 v0 s_1) => ?_)
  exact pk_some h_2
theorem K_X11_set {v0 : Int32} {a1 : Int32} {a2 : Int32} {a3 : Int32} {s : mG} (h : KV 0 2 v0 s) : pk (F_X11_set a1 a2 a3 s) (fun τ => KV 0 2 v0 τ.2) := by
  unfold F_X11_set
  refine pk_b1 pk_top (fun _ _ => ?_)
  refine pk_ite ?_ ?_
  · exact pk_some h
  · refine pk_ite ?_ ?_
    · extract_lets +onlyGivenNames s_1
      have h_2 : KV 0 2 v0 s_1 := KV_mu h (Or.inl (by decide))
      clear_value s_1
      exact (K_X11_set_56 h_2)
    · refine pk_ite ?_ ?_
      · extract_lets +onlyGivenNames s_3
        have h_4 : KV 0 2 v0 s_3 := KV_mu h (Or.inl (by decide))
        clear_value s_3
        exact (K_X11_set_56 h_4)
      · refine pk_b1 (K_X10_put h) (fun s_5 (h_6 : KV 0 2 v0 s_5) => ?_)
        exact (K_X11_set_56 h_6)
theorem K_X11_hang_44 {v0 : Int32} {s : mG} (h : KV 0 2 v0 s) : pk (F_X11_hang_44 s) (fun τ => KV 0 2 v0 τ.2) := by
  unfold F_X11_hang_44
  exact pk_some h
theorem K_X11_hang {v0 : Int32} {a1 : Int32} {a2 : Int32} {s : mG} (h : KV 0 2 v0 s) : pk (F_X11_hang a1 a2 s) (fun τ => KV 0 2 v0 τ.2) := by
  unfold F_X11_hang
  refine pk_b1 pk_top (fun _ _ => ?_)
  refine pk_ite ?_ ?_
  · exact (K_X11_hang_44 h)
  · refine pk_b1 pk_top (fun _ _ => ?_)
    refine pk_ite ?_ ?_
    · exact (K_X11_hang_44 h)
    · refine pk_b1 pk_top (fun _ _ => ?_)
      refine pk_ite ?_ ?_
      · exact (K_X11_hang_44 h)
      · refine pk_b1 pk_top (fun _ _ => ?_)
        refine pk_ite ?_ ?_
        · refine pk_b1 (K_X5_keep h) (fun s_1 (h_2 : KV 0 2 v0 s_1) => ?_)
          refine pk_b1 (K_X10_put h_2) (fun s_3 (h_4 : KV 0 2 v0 s_3) => ?_)
          refine pk_b1 (K_X2_write h_4) (fun s_5 (h_6 : KV 0 2 v0 s_5) => ?_)
          exact pk_some h_6
        · exact (K_X11_hang_44 h)
theorem K_X11_looks_31 {v0 : Int32} {s : mG} (h : KV 0 2 v0 s) : pk (F_X11_looks_31 s) (fun τ => KV 0 2 v0 τ.2) := by
  unfold F_X11_looks_31
  exact pk_some h
theorem K_X11_looks {v0 : Int32} {a1 : Int32} {a2 : Int32} {a3 : Int32} {s : mG} (h : KV 0 2 v0 s) : pk (F_X11_looks a1 a2 a3 s) (fun τ => KV 0 2 v0 τ.2) := by
  unfold F_X11_looks
  refine pk_b1 pk_top (fun _ _ => ?_)
  refine pk_ite ?_ ?_
  · exact (K_X11_looks_31 h)
  · refine pk_b1 pk_top (fun _ _ => ?_)
    refine pk_ite ?_ ?_
    · exact (K_X11_looks_31 h)
    · refine pk_b1 pk_top (fun _ _ => ?_)
      refine pk_ite ?_ ?_
      · exact (K_X11_looks_31 h)
      · refine pk_b1 pk_top (fun _ _ => ?_)
        refine pk_ite ?_ ?_
        · exact pk_some h
        · refine pk_b1 (K_X5_keep h) (fun s_1 (h_2 : KV 0 2 v0 s_1) => ?_)
          refine pk_b1 (K_X10_put h_2) (fun s_3 (h_4 : KV 0 2 v0 s_3) => ?_)
          exact pk_some h_4
theorem K_X11_hours_25 {v0 : Int32} {s : mG} (h : KV 0 2 v0 s) : pk (F_X11_hours_25 s) (fun τ => KV 0 2 v0 τ.2) := by
  unfold F_X11_hours_25
  exact pk_some h
theorem K_X11_hours_B31 {v0 : Int32} {x1 : Int32} {x2 : Int32} {x3 : Int32} {s : mG} (h : KV 0 2 v0 s) : pk (F_X11_hours_B31 x1 x2 x3 s) (se (fun τ => KV 0 2 v0 τ.2.2.2) (fun τ => KV 0 2 v0 τ.2)) := by
  unfold F_X11_hours_B31
  refine pk_ite ?_ ?_
  · exact pk_some h
  · refine pk_b1 (K_X5_keep h) (fun s_1 (h_2 : KV 0 2 v0 s_1) => ?_)
    refine pk_b2 (K_X6_passHour h_2) (fun _ s_3 (h_4 : KV 0 2 v0 s_3) => ?_)
    exact pk_some h_4
theorem K_X11_hours_L31 {v0 : Int32} {x1 : Int32} {x2 : Int32} {x3 : Int32} {s : mG} (h : KV 0 2 v0 s) : pk (F_X11_hours_L31 x1 x2 x3 s) (fun τ => KV 0 2 v0 τ.2) := by
  unfold F_X11_hours_L31
  refine pk_whl (fun v => KV 0 2 v0 v.2.2.2) h (fun v hv => ?_)
  obtain ⟨y0, y1, y2, y3⟩ := v
  exact K_X11_hours_B31 hv
theorem K_X11_hours {v0 : Int32} {a1 : Int32} {s : mG} (h : KV 0 2 v0 s) : pk (F_X11_hours a1 s) (fun τ => KV 0 2 v0 τ.2) := by
  unfold F_X11_hours
  refine pk_b1 pk_top (fun _ _ => ?_)
  refine pk_ite ?_ ?_
  · exact (K_X11_hours_25 h)
  · refine pk_ite ?_ ?_
    · exact (K_X11_hours_L31 h)
    · exact (K_X11_hours_25 h)
theorem K_X11_feed {v0 : Int32} {a1 : Int32} {a2 : Int32} {a3 : Int32} {a4 : Int32} {a5 : Int32} {s : mG} (h : KV 0 2 v0 s) : pk (F_X11_feed a1 a2 a3 a4 a5 s) (fun τ => KV 0 2 v0 τ.2) := by
  unfold F_X11_feed
  refine pk_b1 pk_top (fun _ _ => ?_)
  refine pk_ite ?_ ?_
  · exact pk_some h
  · refine pk_b1 (K_X7_takeFour h) (fun s_1 (h_2 : KV 0 2 v0 s_1) => ?_)
    refine pk_b1 (K_X7_takeFour h_2) (fun s_3 (h_4 : KV 0 2 v0 s_3) => ?_)
    refine pk_b1 (K_X7_takeFour h_4) (fun s_5 (h_6 : KV 0 2 v0 s_5) => ?_)
    refine pk_b1 (K_X7_takeFour h_6) (fun s_7 (h_8 : KV 0 2 v0 s_7) => ?_)
    refine pk_b1 (K_X7_takeFour h_8) (fun s_9 (h_10 : KV 0 2 v0 s_9) => ?_)
    exact pk_some h_10
theorem K_X11_end {v0 : Int32} {a1 : Int32} {s : mG} (h : KV 0 2 v0 s) : pk (F_X11_end a1 s) (fun τ => KV 0 2 v0 τ.2) := by
  unfold F_X11_end
  refine pk_b1 pk_top (fun _ _ => ?_)
  refine pk_ite ?_ ?_
  · exact pk_some h
  · extract_lets +onlyGivenNames s_1
    have h_2 : KV 0 2 v0 s_1 := KV_mu h (Or.inl (by decide))
    clear_value s_1
    exact pk_some h_2
theorem K_X11_text {v0 : Int32} {a1 : Int32} {s : mG} (h : KV 0 2 v0 s) : pk (F_X11_text a1 s) (fun τ => KV 0 2 v0 τ.2) := by
  unfold F_X11_text
  refine pk_b2 (K_X7_readText h) (fun _ s_1 (h_2 : KV 0 2 v0 s_1) => ?_)
  extract_lets +onlyGivenNames s_3
  have h_4 : KV 0 2 v0 s_3 := KV_mu h_2 (Or.inl (by decide))
  clear_value s_3
  refine pk_ite ?_ ?_
  · exact pk_some h_4
  · refine pk_ite ?_ ?_
    · refine pk_b1 (K_X10_copyFrom h_4) (fun s_5 (h_6 : KV 0 2 v0 s_5) => ?_)
      refine pk_b1 (K_X10_copyFrom h_6) (fun s_7 (h_8 : KV 0 2 v0 s_7) => ?_)
      exact pk_some h_8
    · refine pk_b1 (K_X5_forget h_4) (fun s_9 (h_10 : KV 0 2 v0 s_9) => ?_)
      refine pk_ite ?_ ?_
      · refine pk_b1 (K_X10_copyFrom h_10) (fun s_11 (h_12 : KV 0 2 v0 s_11) => ?_)
        refine pk_b1 (K_X2_forgetSeen h_12) (fun s_13 (h_14 : KV 0 2 v0 s_13) => ?_)
        exact pk_some h_14
      · refine pk_b1 (K_X10_copyFrom h_10) (fun s_15 (h_16 : KV 0 2 v0 s_15) => ?_)
        exact pk_some h_16
theorem K_X11_caller_63 {v0 : Int32} {s : mG} (h : KV 0 2 v0 s) : pk (F_X11_caller_63 s) (fun τ => KV 0 2 v0 τ.2) := by
  unfold F_X11_caller_63
  exact pk_some h
theorem K_X11_caller {v0 : Int32} {a1 : Int32} {a2 : Int32} {a3 : Int32} {s : mG} (h : KV 0 2 v0 s) : pk (F_X11_caller a1 a2 a3 s) (fun τ => KV 0 2 v0 τ.2) := by
  unfold F_X11_caller
  refine pk_ite ?_ ?_
  · refine pk_b1 (K_X10_clear h) (fun s_1 (h_2 : KV 0 2 v0 s_1) => ?_)
    exact pk_some h_2
  · refine pk_b1 pk_top (fun _ _ => ?_)
    refine pk_ite ?_ ?_
    · exact (K_X11_caller_63 h)
    · refine pk_b1 pk_top (fun _ _ => ?_)
      refine pk_ite ?_ ?_
      · exact (K_X11_caller_63 h)
      · refine pk_b1 pk_top (fun _ _ => ?_)
        refine pk_ite ?_ ?_
        · exact (K_X11_caller_63 h)
        · refine pk_b1 pk_top (fun _ _ => ?_)
          refine pk_ite ?_ ?_
          · refine pk_b2 (K_X10_add h) (fun _ s_3 (h_4 : KV 0 2 v0 s_3) => ?_)
            refine pk_b1 (K_X10_put h_4) (fun s_5 (h_6 : KV 0 2 v0 s_5) => ?_)
            refine pk_b1 (K_X10_put h_6) (fun s_7 (h_8 : KV 0 2 v0 s_7) => ?_)
            refine pk_b1 (K_X10_put h_8) (fun s_9 (h_10 : KV 0 2 v0 s_9) => ?_)
            exact pk_some h_10
          · exact (K_X11_caller_63 h)
theorem K_X11_room_73 {v0 : Int32} {s : mG} (h : KV 0 2 v0 s) : pk (F_X11_room_73 s) (fun τ => KV 0 2 v0 τ.2) := by
  unfold F_X11_room_73
  exact pk_some h
theorem K_X11_room {v0 : Int32} {a1 : Int32} {a2 : Int32} {a3 : Int32} {a4 : Int32} {s : mG} (h : KV 0 2 v0 s) : pk (F_X11_room a1 a2 a3 a4 s) (fun τ => KV 0 2 v0 τ.2) := by
  unfold F_X11_room
  refine pk_ite ?_ ?_
  · refine pk_b1 (K_X10_clear h) (fun s_1 (h_2 : KV 0 2 v0 s_1) => ?_)
    exact pk_some h_2
  · refine pk_b1 pk_top (fun _ _ => ?_)
    refine pk_ite ?_ ?_
    · exact (K_X11_room_73 h)
    · refine pk_b1 pk_top (fun _ _ => ?_)
      refine pk_ite ?_ ?_
      · exact (K_X11_room_73 h)
      · refine pk_b1 pk_top (fun _ _ => ?_)
        refine pk_ite ?_ ?_
        · exact (K_X11_room_73 h)
        · refine pk_b1 pk_top (fun _ _ => ?_)
          refine pk_ite ?_ ?_
          · exact (K_X11_room_73 h)
          · refine pk_b1 pk_top (fun _ _ => ?_)
            refine pk_ite ?_ ?_
            · refine pk_b2 (K_X10_add h) (fun _ s_3 (h_4 : KV 0 2 v0 s_3) => ?_)
              refine pk_b1 (K_X10_put h_4) (fun s_5 (h_6 : KV 0 2 v0 s_5) => ?_)
              refine pk_b1 (K_X10_put h_6) (fun s_7 (h_8 : KV 0 2 v0 s_7) => ?_)
              refine pk_b1 (K_X10_put h_8) (fun s_9 (h_10 : KV 0 2 v0 s_9) => ?_)
              refine pk_b1 (K_X10_put h_10) (fun s_11 (h_12 : KV 0 2 v0 s_11) => ?_)
              exact pk_some h_12
            · exact (K_X11_room_73 h)
theorem K_X11_undo {v0 : Int32} {s : mG} (h : KV 0 2 v0 s) : pk (F_X11_undo s) (fun τ => KV 0 2 v0 τ.2) := by
  unfold F_X11_undo
  refine pk_b2 (K_X5_giveBack h) (fun _ s_1 (h_2 : KV 0 2 v0 s_1) => ?_)
  refine pk_pp ?_
  exact pk_some h_2
theorem K_X11_of {v0 : Int32} {a1 : Int32} {a2 : Int32} {s : mG} (h : KV 0 2 v0 s) : pk (F_X11_of a1 a2 s) (fun τ => KV 0 2 v0 τ.2) := by
  unfold F_X11_of
  refine pk_b1 pk_top (fun _ _ => ?_)
  refine pk_ite ?_ ?_
  · exact pk_some h
  · refine pk_b1 pk_top (fun _ _ => ?_)
    refine pk_ite ?_ ?_
    · refine pk_ite ?_ ?_
      · refine pk_b2 (K_X0_sureOf h) (fun _ s_1 (h_2 : KV 0 2 v0 s_1) => ?_)
        exact pk_some h_2
      · refine pk_b1 pk_top (fun _ _ => ?_)
        refine pk_ite ?_ ?_
        · exact pk_some h
        · refine pk_b1 (K_X3_face h) (fun s_3 (h_4 : KV 0 2 v0 s_3) => ?_)
          refine pk_b2 (K_X3_tells h_4) (fun _ s_5 (h_6 : KV 0 2 v0 s_5) => ?_)
          exact pk_some h_6
    · refine pk_b1 pk_top (fun _ _ => ?_)
      exact pk_some h
theorem K_X11_next {v0 : Int32} {a1 : Int32} {s : mG} (h : KV 0 2 v0 s) : pk (F_X11_next a1 s) (fun τ => KV 0 2 v0 τ.2) := by
  unfold F_X11_next
  refine pk_b1 pk_top (fun _ _ => ?_)
  refine pk_ite ?_ ?_
  · exact pk_some h
  · refine pk_b2 (K_X0_signAt h) (fun _ s_1 (h_2 : KV 0 2 v0 s_1) => ?_)
    exact pk_some h_2
theorem K_X11_looksAt_27 {v0 : Int32} {s : mG} (h : KV 0 2 v0 s) : pk (F_X11_looksAt_27 s) (fun τ => KV 0 2 v0 τ.2) := by
  unfold F_X11_looksAt_27
  exact pk_some h
theorem K_X11_looksAt {v0 : Int32} {a1 : Int32} {a2 : Int32} {s : mG} (h : KV 0 2 v0 s) : pk (F_X11_looksAt a1 a2 s) (fun τ => KV 0 2 v0 τ.2) := by
  unfold F_X11_looksAt
  refine pk_b1 pk_top (fun _ _ => ?_)
  refine pk_ite ?_ ?_
  · exact (K_X11_looksAt_27 h)
  · refine pk_ite ?_ ?_
    · exact (K_X11_looksAt_27 h)
    · refine pk_b2 (K_X0_signAt h) (fun _ s_1 (h_2 : KV 0 2 v0 s_1) => ?_)
      exact pk_some h_2
theorem K_X11_say_33 {v0 : Int32} {s : mG} (h : KV 0 2 v0 s) : pk (F_X11_say_33 s) (fun τ => KV 0 2 v0 τ.2) := by
  unfold F_X11_say_33
  exact pk_some h
theorem K_X11_say {v0 : Int32} {a1 : Int32} {a2 : Int32} {a3 : Int32} {s : mG} (h : KV 0 2 v0 s) : pk (F_X11_say a1 a2 a3 s) (fun τ => KV 0 2 v0 τ.2) := by
  unfold F_X11_say
  refine pk_b1 pk_top (fun _ _ => ?_)
  refine pk_ite ?_ ?_
  · exact (K_X11_say_33 h)
  · refine pk_b1 pk_top (fun _ _ => ?_)
    refine pk_ite ?_ ?_
    · exact (K_X11_say_33 h)
    · refine pk_b1 pk_top (fun _ _ => ?_)
      refine pk_ite ?_ ?_
      · exact (K_X11_say_33 h)
      · refine pk_b2 (K_X0_saysIn h) (fun _ s_1 (h_2 : KV 0 2 v0 s_1) => ?_)
        refine pk_ite ?_ ?_
        · exact pk_some h_2
        · exact pk_some h_2
theorem K_X11_said_23 {v0 : Int32} {y1 : Int32} {s : mG} (h : KV 0 2 v0 s) : pk (F_X11_said_23 y1 s) (fun τ => KV 0 2 v0 τ.2) := by
  unfold F_X11_said_23
  refine pk_b2 (K_X0_saidToAll h) (fun _ s_1 (h_2 : KV 0 2 v0 s_1) => ?_)
  exact pk_some h_2
theorem K_X11_said {v0 : Int32} {a1 : Int32} {s : mG} (h : KV 0 2 v0 s) : pk (F_X11_said a1 s) (fun τ => KV 0 2 v0 τ.2) := by
  unfold F_X11_said
  refine pk_b1 pk_top (fun _ _ => ?_)
  refine pk_ite ?_ ?_
  · exact pk_some h
  · refine pk_ite ?_ ?_
    · exact (K_X11_said_23 h)
    · exact (K_X11_said_23 h)
theorem K_X11_many {v0 : Int32} {a1 : Int32} {s : mG} (h : KV 0 2 v0 s) : pk (F_X11_many a1 s) (fun τ => KV 0 2 v0 τ.2) := by
  unfold F_X11_many
  refine pk_ite ?_ ?_
  · refine pk_b2 (K_X0_sumOfSure h) (fun _ s_1 (h_2 : KV 0 2 v0 s_1) => ?_)
    exact pk_some h_2
  · refine pk_ite ?_ ?_
    · refine pk_b2 (K_X0_likeliest h) (fun _ s_3 (h_4 : KV 0 2 v0 s_3) => ?_)
      exact pk_some h_4
    · refine pk_ite ?_ ?_
      · refine pk_b2 (K_X0_likeliest h) (fun _ s_5 (h_6 : KV 0 2 v0 s_5) => ?_)
        exact pk_some h_6
      · exact pk_some h
theorem K_X11_span_20 {v0 : Int32} {s : mG} (h : KV 0 2 v0 s) : pk (F_X11_span_20 s) (fun τ => KV 0 2 v0 τ.2) := by
  unfold F_X11_span_20
  exact pk_some h
theorem K_X11_span_37 {v0 : Int32} {y1 : Int32} {y2 : Int32} {s : mG} (h : KV 0 2 v0 s) : pk (F_X11_span_37 y1 y2 s) (fun τ => KV 0 2 v0 τ.2) := by
  unfold F_X11_span_37
  refine pk_b2 (K_X0_spanEdge h) (fun _ s_1 (h_2 : KV 0 2 v0 s_1) => ?_)
  exact pk_some h_2
theorem K_X11_span {v0 : Int32} {a1 : Int32} {a2 : Int32} {s : mG} (h : KV 0 2 v0 s) : pk (F_X11_span a1 a2 s) (fun τ => KV 0 2 v0 τ.2) := by
  unfold F_X11_span
  refine pk_b1 pk_top (fun _ _ => ?_)
  refine pk_ite ?_ ?_
  · exact (K_X11_span_20 h)
  · refine pk_b1 pk_top (fun _ _ => ?_)
    refine pk_ite ?_ ?_
    · exact (K_X11_span_20 h)
    · refine pk_ite ?_ ?_
      · exact (K_X11_span_37 h)
      · exact (K_X11_span_37 h)
theorem K_X11_counted_21 {v0 : Int32} {s : mG} (h : KV 0 2 v0 s) : pk (F_X11_counted_21 s) (fun τ => KV 0 2 v0 τ.2) := by
  unfold F_X11_counted_21
  exact pk_some h
theorem K_X11_counted {v0 : Int32} {a1 : Int32} {a2 : Int32} {s : mG} (h : KV 0 2 v0 s) : pk (F_X11_counted a1 a2 s) (fun τ => KV 0 2 v0 τ.2) := by
  unfold F_X11_counted
  refine pk_b1 pk_top (fun _ _ => ?_)
  refine pk_ite ?_ ?_
  · exact (K_X11_counted_21 h)
  · refine pk_b1 pk_top (fun _ _ => ?_)
    refine pk_ite ?_ ?_
    · exact (K_X11_counted_21 h)
    · refine pk_b2 (K_X0_amongCounted h) (fun _ s_1 (h_2 : KV 0 2 v0 s_1) => ?_)
      exact pk_some h_2
theorem K_X11_empty {v0 : Int32} {a1 : Int32} {s : mG} (h : KV 0 2 v0 s) : pk (F_X11_empty a1 s) (fun τ => KV 0 2 v0 τ.2) := by
  unfold F_X11_empty
  refine pk_b1 pk_top (fun _ _ => ?_)
  refine pk_ite ?_ ?_
  · exact pk_some h
  · refine pk_b2 (K_X0_emptyChance h) (fun _ s_1 (h_2 : KV 0 2 v0 s_1) => ?_)
    exact pk_some h_2
theorem K_X11_pair_23 {v0 : Int32} {s : mG} (h : KV 0 2 v0 s) : pk (F_X11_pair_23 s) (fun τ => KV 0 2 v0 τ.2) := by
  unfold F_X11_pair_23
  exact pk_some h
theorem K_X11_pair {v0 : Int32} {a1 : Int32} {s : mG} (h : KV 0 2 v0 s) : pk (F_X11_pair a1 s) (fun τ => KV 0 2 v0 τ.2) := by
  unfold F_X11_pair
  refine pk_b1 pk_top (fun _ _ => ?_)
  refine pk_ite ?_ ?_
  · exact (K_X11_pair_23 h)
  · refine pk_ite ?_ ?_
    · refine pk_b2 (K_X0_bestPair h) (fun _ s_1 (h_2 : KV 0 2 v0 s_1) => ?_)
      exact pk_some h_2
    · exact (K_X11_pair_23 h)
theorem K_X11_lack {v0 : Int32} {a1 : Int32} {s : mG} (h : KV 0 2 v0 s) : pk (F_X11_lack a1 s) (fun τ => KV 0 2 v0 τ.2) := by
  unfold F_X11_lack
  refine pk_ite ?_ ?_
  · refine pk_b1 pk_top (fun _ _ => ?_)
    refine pk_b1 pk_top (fun _ _ => ?_)
    exact pk_some h
  · refine pk_ite ?_ ?_
    · refine pk_b2 (K_X0_keylessOut h) (fun _ s_1 (h_2 : KV 0 2 v0 s_1) => ?_)
      exact pk_some h_2
    · refine pk_ite ?_ ?_
      · refine pk_b1 pk_top (fun _ _ => ?_)
        refine pk_b1 pk_top (fun _ _ => ?_)
        refine pk_b1 pk_top (fun _ _ => ?_)
        exact pk_some h
      · exact pk_some h
end
end
