noncomputable section
theorem W_X2_forgetSeen_B2 {M : Nat} {z : mG} {hh : Nat} {x1 : Int32} {s : mG} (hM : sub 0 M) (h_hh_2 : M.testBit (hh + 2) = true) (h : KB M z s) : pk (F_X2_forgetSeen_B2 hh x1 s) (se (fun τ => KB M z τ.2) (fun τ => KB M z τ)) := by
  unfold F_X2_forgetSeen_B2
  refine pk_ite ?_ ?_
  · exact pk_some h
  · refine pk_b1 (W_X2_forgetSeenOf (sub_tr (by decide +kernel) hM) h_hh_2 h) (fun s_1 (h_2 : KB M z s_1) => ?_)
    exact pk_some h_2
theorem W_X2_forgetSeen_L2 {M : Nat} {z : mG} {hh : Nat} {x1 : Int32} {s : mG} (hM : sub 0 M) (h_hh_2 : M.testBit (hh + 2) = true) (h : KB M z s) : pk (F_X2_forgetSeen_L2 hh x1 s) (fun τ => KB M z τ) := by
  unfold F_X2_forgetSeen_L2
  refine pk_whl (fun v => KB M z v.2) h (fun v hv => ?_)
  obtain ⟨y0, y1⟩ := v
  exact W_X2_forgetSeen_B2 (sub_tr (by decide +kernel) hM) h_hh_2 hv
theorem W_X2_forgetSeen {M : Nat} {z : mG} {hh : Nat} {s : mG} (hM : sub 0 M) (h_hh_2 : M.testBit (hh + 2) = true) (h : KB M z s) : pk (F_X2_forgetSeen hh s) (fun τ => KB M z τ) := by
  unfold F_X2_forgetSeen
  exact (W_X2_forgetSeen_L2 (sub_tr (by decide +kernel) hM) h_hh_2 h)
theorem W_X2_drawThousand {M : Nat} {z : mG} {hh : Nat} {s : mG} (hM : sub 0 M) (h_hh_0 : M.testBit (hh + 0) = true) (h : KB M z s) : pk (F_X2_drawThousand hh s) (fun τ => KB M z τ.2) := by
  unfold F_X2_drawThousand
  extract_lets +onlyGivenNames s_1
  have h_2 : KB M z s_1 := KB_mu h h_hh_0
  clear_value s_1
  extract_lets +onlyGivenNames v_3
  clear_value v_3
  exact pk_some h_2
theorem W_X2_write {M : Nat} {z : mG} {hh : Nat} {a1 : Int32} {a2 : Int32} {a3 : Int32} {a4 : Int32} {s : mG} (hM : sub 0 M) (h_hh_3 : M.testBit (hh + 3) = true) (h_hh_4 : M.testBit (hh + 4) = true) (h : KB M z s) : pk (F_X2_write hh a1 a2 a3 a4 s) (fun τ => KB M z τ) := by
  unfold F_X2_write
  refine pk_b1 pk_top (fun _ _ => ?_)
  refine pk_ite ?_ ?_
  · refine pk_b2 (W_X10_add (sub_tr (by decide +kernel) hM) h_hh_3 h) (fun _ s_1 (h_2 : KB M z s_1) => ?_)
    refine pk_b1 (W_X10_put (sub_tr (by decide +kernel) hM) h_hh_4 h_2) (fun s_3 (h_4 : KB M z s_3) => ?_)
    refine pk_b1 (W_X10_put (sub_tr (by decide +kernel) hM) h_hh_4 h_4) (fun s_5 (h_6 : KB M z s_5) => ?_)
    refine pk_b1 (W_X10_put (sub_tr (by decide +kernel) hM) h_hh_4 h_6) (fun s_7 (h_8 : KB M z s_7) => ?_)
    refine pk_b1 (W_X10_put (sub_tr (by decide +kernel) hM) h_hh_4 h_8) (fun s_9 (h_10 : KB M z s_9) => ?_)
    refine pk_b1 (W_X10_put (sub_tr (by decide +kernel) hM) h_hh_4 h_10) (fun s_11 (h_12 : KB M z s_11) => ?_)
    exact pk_some h_12
  · exact pk_some h
theorem W_X4_takeFrom {M : Nat} {z : mG} {mo : Nat} {a1 : Nat} {s : mG} (hM : sub 0 M) (h_mo_0 : M.testBit (mo + 0) = true) (h_mo_1 : M.testBit (mo + 1) = true) (h_mo_2 : M.testBit (mo + 2) = true) (h : KB M z s) : pk (F_X4_takeFrom mo a1 s) (fun τ => KB M z τ) := by
  unfold F_X4_takeFrom
  refine pk_b1 (W_X10_copyFrom (sub_tr (by decide +kernel) hM) h_mo_1 h_mo_2 h) (fun s_1 (h_2 : KB M z s_1) => ?_)
  extract_lets +onlyGivenNames s_3
  have h_4 : KB M z s_3 := KB_mu h_2 h_mo_0
  clear_value s_3
  extract_lets +onlyGivenNames s_5
  have h_6 : KB M z s_5 := KB_mu h_4 h_mo_0
  clear_value s_5
  extract_lets +onlyGivenNames s_7
  have h_8 : KB M z s_7 := KB_mu h_6 h_mo_0
  clear_value s_7
  exact pk_some h_8
theorem W_X4_giveTo {M : Nat} {z : mG} {mo : Nat} {a1 : Nat} {s : mG} (hM : sub 0 M) (h_a1_0 : M.testBit (a1 + 0) = true) (h_a1_1 : M.testBit (a1 + 1) = true) (h_a1_2 : M.testBit (a1 + 2) = true) (h_a1_3 : M.testBit (a1 + 3) = true) (h : KB M z s) : pk (F_X4_giveTo mo a1 s) (fun τ => KB M z τ) := by
  unfold F_X4_giveTo
  refine pk_b1 (W_X10_copyFrom (sub_tr (by decide +kernel) hM) h_a1_1 h_a1_2 h) (fun s_1 (h_2 : KB M z s_1) => ?_)
  extract_lets +onlyGivenNames s_3
  have h_4 : KB M z s_3 := KB_mu h_2 h_a1_3
  clear_value s_3
  extract_lets +onlyGivenNames s_5
  have h_6 : KB M z s_5 := KB_mu h_4 h_a1_0
  clear_value s_5
  extract_lets +onlyGivenNames s_7
  have h_8 : KB M z s_7 := KB_mu h_6 h_a1_0
  clear_value s_7
  exact pk_some h_8
theorem W_X5_forget {M : Nat} {z : mG} {s : mG} (hM : sub 34359738368 M) (h : KB M z s) : pk (F_X5_forget s) (fun τ => KB M z τ) := by
  unfold F_X5_forget
  extract_lets +onlyGivenNames s_1
  have h_2 : KB M z s_1 := KB_mu h (hM 35 (by decide +kernel))
  clear_value s_1
  exact pk_some h_2
theorem W_X5_keep {M : Nat} {z : mG} {a1 : Nat} {s : mG} (hM : sub 36028693939748864 M) (h : KB M z s) : pk (F_X5_keep a1 s) (fun τ => KB M z τ) := by
  unfold F_X5_keep
  refine pk_bo ?_ (fun o2 ho1 => ?_)
  · exact pk_some h
  · refine pk_b1 (W_X4_takeFrom (sub_tr (by decide +kernel) hM) (hM _ (sub_and (by decide : 36028659580010496 &&& 36028693939748864 = 36028659580010496) _ (mom_bit ho1 (by decide : 0 < 3)))) (hM _ (sub_and (by decide : 36028659580010496 &&& 36028693939748864 = 36028659580010496) _ (mom_bit ho1 (by decide : 1 < 3)))) (hM _ (sub_and (by decide : 36028659580010496 &&& 36028693939748864 = 36028659580010496) _ (mom_bit ho1 (by decide : 2 < 3)))) h) (fun s_1 (h_2 : KB M z s_1) => ?_)
    extract_lets +onlyGivenNames s_3
    have h_4 : KB M z s_3 := KB_mu h_2 (hM 35 (by decide +kernel))
    clear_value s_3
    extract_lets +onlyGivenNames s_5
    have h_6 : KB M z s_5 := KB_mu h_4 (hM 35 (by decide +kernel))
    clear_value s_5
    exact pk_some h_6
theorem W_X5_giveBack_30 {M : Nat} {z : mG} {a1 : Nat} {s : mG} (hM : sub 0 M) (h : KB M z s) : pk (F_X5_giveBack_30 a1 s) (fun τ => KB M z τ.2) := by
  unfold F_X5_giveBack_30
  exact pk_some h
theorem W_X5_giveBack {M : Nat} {z : mG} {a1 : Nat} {s : mG} (hM : sub 34359738368 M) (h_a1_0 : M.testBit (a1 + 0) = true) (h_a1_1 : M.testBit (a1 + 1) = true) (h_a1_2 : M.testBit (a1 + 2) = true) (h_a1_3 : M.testBit (a1 + 3) = true) (h : KB M z s) : pk (F_X5_giveBack a1 s) (fun τ => KB M z τ.2) := by
  unfold F_X5_giveBack
  extract_lets +onlyGivenNames v_1
  clear_value v_1
  refine pk_bo ?_ (fun o3 ho1 => ?_)
  · refine pk_ite ?_ ?_
    · exact (W_X5_giveBack_30 (sub_tr (by decide +kernel) hM) h)
    · exact (W_X5_giveBack_30 (sub_tr (by decide +kernel) hM) h)
  · refine pk_ite ?_ ?_
    · exact (W_X5_giveBack_30 (sub_tr (by decide +kernel) hM) h)
    · refine pk_b1 (W_X4_giveTo (sub_tr (by decide +kernel) hM) h_a1_0 h_a1_1 h_a1_2 h_a1_3 h) (fun s_2 (h_3 : KB M z s_2) => ?_)
      extract_lets +onlyGivenNames s_4
      have h_5 : KB M z s_4 := KB_mu h_3 (hM 35 (by decide +kernel))
      clear_value s_4
      extract_lets +onlyGivenNames s_6
      have h_7 : KB M z s_6 := KB_mu h_5 (hM 35 (by decide +kernel))
      clear_value s_6
      exact pk_some h_7
theorem W_X6_ask_B10 {M : Nat} {z : mG} {x2 : Int32} {s : mG} (hM : sub 5902958103587056517120 M) (h : KB M z s) : pk (F_X6_ask_B10 x2 s) (se (fun τ => KB M z τ.2) (fun τ => KB M z τ)) := by
  unfold F_X6_ask_B10
  refine pk_ite ?_ ?_
  · exact pk_some h
  · refine pk_b2 (W_X3_tells (sub_tr (by decide +kernel) hM) h) (fun _ s_1 (h_2 : KB M z s_1) => ?_)
    refine pk_nn ?_
    extract_lets +onlyGivenNames s_3
    have h_4 : KB M z s_3 := KB_mu h_2 (hM 72 (by decide +kernel))
    clear_value s_3
    exact pk_some h_4
theorem W_X6_ask_L10 {M : Nat} {z : mG} {x2 : Int32} {s : mG} (hM : sub 5902958103587056517120 M) (h : KB M z s) : pk (F_X6_ask_L10 x2 s) (fun τ => KB M z τ) := by
  unfold F_X6_ask_L10
  refine pk_whl (fun v => KB M z v.2) h (fun v hv => ?_)
  obtain ⟨y0, y1⟩ := v
  exact W_X6_ask_B10 (sub_tr (by decide +kernel) hM) hv
theorem W_X6_ask {M : Nat} {z : mG} {a1 : Int32} {s : mG} (hM : sub 6493253913945762168832 M) (h : KB M z s) : pk (F_X6_ask a1 s) (fun τ => KB M z τ) := by
  unfold F_X6_ask
  refine pk_b1 (W_X3_face (sub_tr (by decide +kernel) hM) h) (fun s_1 (h_2 : KB M z s_1) => ?_)
  exact (W_X6_ask_L10 (sub_tr (by decide +kernel) hM) h_2)
theorem W_X6_isDrawn {M : Nat} {z : mG} {a1 : Int32} {s : mG} (hM : sub 2 M) (h : KB M z s) : pk (F_X6_isDrawn a1 s) (fun τ => KB M z τ.2) := by
  unfold F_X6_isDrawn
  refine pk_b2 (W_X2_drawThousand (sub_tr (by decide +kernel) hM) (hM 1 (by decide +kernel)) h) (fun _ s_1 (h_2 : KB M z s_1) => ?_)
  refine pk_b1 pk_top (fun _ _ => ?_)
  refine pk_ite ?_ ?_
  · exact pk_some h_2
  · exact pk_some h_2
theorem W_X6_hangKey_51 {M : Nat} {z : mG} {x1 : Int32} {x2 : Int32} {s : mG} (hM : sub 8 M) (h : KB M z s) : pk (F_X6_hangKey_51 x1 x2 s) (fun τ => KB M z τ) := by
  unfold F_X6_hangKey_51
  refine pk_b1 pk_top (fun _ _ => ?_)
  refine pk_ite ?_ ?_
  · refine pk_b1 (W_X10_put (sub_tr (by decide +kernel) hM) (hM 3 (by decide +kernel)) h) (fun s_1 (h_2 : KB M z s_1) => ?_)
    exact pk_some h_2
  · exact pk_some h
theorem W_X6_hangKey_50 {M : Nat} {z : mG} {x1 : Int32} {y0 : Int32} {s : mG} (hM : sub 8 M) (h : KB M z s) : pk (F_X6_hangKey_50 x1 y0 s) (fun τ => KB M z τ) := by
  unfold F_X6_hangKey_50
  exact (W_X6_hangKey_51 (sub_tr (by decide +kernel) hM) h)
theorem W_X6_hangKey_33 {M : Nat} {z : mG} {x1 : Int32} {y0 : Int32} {s : mG} (hM : sub 8 M) (h : KB M z s) : pk (F_X6_hangKey_33 x1 y0 s) (fun τ => KB M z τ) := by
  unfold F_X6_hangKey_33
  refine pk_b1 pk_top (fun _ _ => ?_)
  refine pk_ite ?_ ?_
  · exact (W_X6_hangKey_50 (sub_tr (by decide +kernel) hM) h)
  · exact (W_X6_hangKey_50 (sub_tr (by decide +kernel) hM) h)
theorem W_X6_hangKey {M : Nat} {z : mG} {a1 : Int32} {s : mG} (hM : sub 10 M) (h : KB M z s) : pk (F_X6_hangKey a1 s) (fun τ => KB M z τ) := by
  unfold F_X6_hangKey
  refine pk_b2 (W_X6_isDrawn (sub_tr (by decide +kernel) hM) h) (fun _ s_1 (h_2 : KB M z s_1) => ?_)
  refine pk_ite ?_ ?_
  · exact (W_X6_hangKey_51 (sub_tr (by decide +kernel) hM) h_2)
  · refine pk_ite ?_ ?_
    · exact (W_X6_hangKey_33 (sub_tr (by decide +kernel) hM) h_2)
    · exact (W_X6_hangKey_33 (sub_tr (by decide +kernel) hM) h_2)
theorem W_X6_goes_50 {M : Nat} {z : mG} {x1 : Int32} {x2 : Int32} {s : mG} (hM : sub 48 M) (h : KB M z s) : pk (F_X6_goes_50 x1 x2 s) (fun τ => KB M z τ.2) := by
  unfold F_X6_goes_50
  refine pk_b1 pk_top (fun _ _ => ?_)
  refine pk_b1 (W_X2_write (sub_tr (by decide +kernel) hM) (hM 4 (by decide +kernel)) (hM 5 (by decide +kernel)) h) (fun s_1 (h_2 : KB M z s_1) => ?_)
  exact pk_some h_2
theorem W_X6_goes_36 {M : Nat} {z : mG} {x1 : Int32} {y0 : Int32} {s : mG} (hM : sub 58 M) (h : KB M z s) : pk (F_X6_goes_36 x1 y0 s) (fun τ => KB M z τ.2) := by
  unfold F_X6_goes_36
  refine pk_b2 (W_X6_isDrawn (sub_tr (by decide +kernel) hM) h) (fun _ s_1 (h_2 : KB M z s_1) => ?_)
  refine pk_ite ?_ ?_
  · refine pk_b1 (W_X6_hangKey (sub_tr (by decide +kernel) hM) h_2) (fun s_3 (h_4 : KB M z s_3) => ?_)
    exact (W_X6_goes_50 (sub_tr (by decide +kernel) hM) h_4)
  · exact (W_X6_goes_50 (sub_tr (by decide +kernel) hM) h_2)
theorem W_X6_goes {M : Nat} {z : mG} {a1 : Int32} {s : mG} (hM : sub 58 M) (h : KB M z s) : pk (F_X6_goes a1 s) (fun τ => KB M z τ.2) := by
  unfold F_X6_goes
  refine pk_b2 (W_X6_isDrawn (sub_tr (by decide +kernel) hM) h) (fun _ s_1 (h_2 : KB M z s_1) => ?_)
  refine pk_ite ?_ ?_
  · exact pk_some h_2
  · refine pk_b1 (W_X10_put (sub_tr (by decide +kernel) hM) (hM 3 (by decide +kernel)) h_2) (fun s_3 (h_4 : KB M z s_3) => ?_)
    refine pk_b2 (W_X6_isDrawn (sub_tr (by decide +kernel) hM) h_4) (fun _ s_5 (h_6 : KB M z s_5) => ?_)
    refine pk_ite ?_ ?_
    · exact (W_X6_goes_36 (sub_tr (by decide +kernel) hM) h_6)
    · exact (W_X6_goes_36 (sub_tr (by decide +kernel) hM) h_6)
theorem W_X6_comes_49 {M : Nat} {z : mG} {x1 : Int32} {y0 : Int32} {s : mG} (hM : sub 48 M) (h : KB M z s) : pk (F_X6_comes_49 x1 y0 s) (fun τ => KB M z τ.2) := by
  unfold F_X6_comes_49
  refine pk_b1 pk_top (fun _ _ => ?_)
  refine pk_b1 (W_X2_write (sub_tr (by decide +kernel) hM) (hM 4 (by decide +kernel)) (hM 5 (by decide +kernel)) h) (fun s_1 (h_2 : KB M z s_1) => ?_)
  exact pk_some h_2
theorem W_X6_comes {M : Nat} {z : mG} {a1 : Int32} {s : mG} (hM : sub 58 M) (h : KB M z s) : pk (F_X6_comes a1 s) (fun τ => KB M z τ.2) := by
  unfold F_X6_comes
  refine pk_b2 (W_X6_isDrawn (sub_tr (by decide +kernel) hM) h) (fun _ s_1 (h_2 : KB M z s_1) => ?_)
  refine pk_ite ?_ ?_
  · exact pk_some h_2
  · refine pk_b1 (W_X10_put (sub_tr (by decide +kernel) hM) (hM 3 (by decide +kernel)) h_2) (fun s_3 (h_4 : KB M z s_3) => ?_)
    refine pk_b1 (W_X10_put (sub_tr (by decide +kernel) hM) (hM 3 (by decide +kernel)) h_4) (fun s_5 (h_6 : KB M z s_5) => ?_)
    refine pk_b2 (W_X6_isDrawn (sub_tr (by decide +kernel) hM) h_6) (fun _ s_7 (h_8 : KB M z s_7) => ?_)
    refine pk_ite ?_ ?_
    · exact (W_X6_comes_49 (sub_tr (by decide +kernel) hM) h_8)
    · exact (W_X6_comes_49 (sub_tr (by decide +kernel) hM) h_8)
theorem W_X6_passHour_101 {M : Nat} {z : mG} {x1 : Int32} {x2 : Int32} {y1 : Int32} {y2 : Int32} {y3 : Int32} {s : mG} (hM : sub 8 M) (h : KB M z s) : pk (F_X6_passHour_101 x1 x2 y1 y2 y3 s) (se (fun τ => KB M z τ.2.2) (fun τ => KB M z τ.2)) := by
  unfold F_X6_passHour_101
  refine pk_b1 (W_X10_put (sub_tr (by decide +kernel) hM) (hM 3 (by decide +kernel)) h) (fun s_1 (h_2 : KB M z s_1) => ?_)
  exact pk_some h_2
theorem W_X6_passHour_58 {M : Nat} {z : mG} {x2 : Int32} {x3 : Int32} {y0 : Int32} {y1 : Int32} {s : mG} (hM : sub 8 M) (h : KB M z s) : pk (F_X6_passHour_58 x2 x3 y0 y1 s) (se (fun τ => KB M z τ.2.2) (fun τ => KB M z τ.2)) := by
  unfold F_X6_passHour_58
  refine pk_b1 pk_top (fun _ _ => ?_)
  extract_lets +onlyGivenNames v_1
  clear_value v_1
  refine pk_ite ?_ ?_
  · exact (W_X6_passHour_101 (sub_tr (by decide +kernel) hM) h)
  · exact (W_X6_passHour_101 (sub_tr (by decide +kernel) hM) h)
theorem W_X6_passHour_47 {M : Nat} {z : mG} {x1 : Int32} {x2 : Int32} {y0 : Int32} {s : mG} (hM : sub 8 M) (h : KB M z s) : pk (F_X6_passHour_47 x1 x2 y0 s) (se (fun τ => KB M z τ.2.2) (fun τ => KB M z τ.2)) := by
  unfold F_X6_passHour_47
  refine pk_ite ?_ ?_
  · exact (W_X6_passHour_58 (sub_tr (by decide +kernel) hM) h)
  · exact (W_X6_passHour_58 (sub_tr (by decide +kernel) hM) h)
theorem W_X6_passHour_B4 {M : Nat} {z : mG} {x1 : Int32} {x2 : Int32} {s : mG} (hM : sub 6493253913945762168890 M) (h : KB M z s) : pk (F_X6_passHour_B4 x1 x2 s) (se (fun τ => KB M z τ.2.2) (fun τ => KB M z τ.2)) := by
  unfold F_X6_passHour_B4
  refine pk_ite ?_ ?_
  · extract_lets +onlyGivenNames s_1
    have h_2 : KB M z s_1 := KB_mu h (hM 1 (by decide +kernel))
    clear_value s_1
    exact pk_some h_2
  · refine pk_b1 (W_X6_ask (sub_tr (by decide +kernel) hM) h) (fun s_3 (h_4 : KB M z s_3) => ?_)
    refine pk_b1 pk_top (fun _ _ => ?_)
    refine pk_ite ?_ ?_
    · refine pk_b2 (W_X6_goes (sub_tr (by decide +kernel) hM) h_4) (fun _ s_5 (h_6 : KB M z s_5) => ?_)
      exact (W_X6_passHour_47 (sub_tr (by decide +kernel) hM) h_6)
    · refine pk_b2 (W_X6_comes (sub_tr (by decide +kernel) hM) h_4) (fun _ s_7 (h_8 : KB M z s_7) => ?_)
      exact (W_X6_passHour_47 (sub_tr (by decide +kernel) hM) h_8)
theorem W_X6_passHour_L4 {M : Nat} {z : mG} {x1 : Int32} {x2 : Int32} {s : mG} (hM : sub 6493253913945762168890 M) (h : KB M z s) : pk (F_X6_passHour_L4 x1 x2 s) (fun τ => KB M z τ.2) := by
  unfold F_X6_passHour_L4
  refine pk_whl (fun v => KB M z v.2.2) h (fun v hv => ?_)
  obtain ⟨y0, y1, y2⟩ := v
  exact W_X6_passHour_B4 (sub_tr (by decide +kernel) hM) hv
theorem W_X6_passHour {M : Nat} {z : mG} {s : mG} (hM : sub 6493253913945762168890 M) (h : KB M z s) : pk (F_X6_passHour s) (fun τ => KB M z τ.2) := by
  unfold F_X6_passHour
  exact (W_X6_passHour_L4 (sub_tr (by decide +kernel) hM) h)
theorem W_X7_takeFour_B3 {M : Nat} {z : mG} {x1 : Int32} {x2 : Int32} {s : mG} (hM : sub 18482772870728515584 M) (h : KB M z s) : pk (F_X7_takeFour_B3 x1 x2 s) (se (fun τ => KB M z τ.2.2) (fun τ => KB M z τ)) := by
  unfold F_X7_takeFour_B3
  refine pk_ite ?_ ?_
  · exact pk_some h
  · refine pk_b1 (W_X11_put (sub_tr (by decide +kernel) hM) (hM 64 (by decide +kernel)) h) (fun s_1 (h_2 : KB M z s_1) => ?_)
    extract_lets +onlyGivenNames s_3
    have h_4 : KB M z s_3 := KB_mu h_2 (hM 55 (by decide +kernel))
    clear_value s_3
    exact pk_some h_4
theorem W_X7_takeFour_L3 {M : Nat} {z : mG} {x1 : Int32} {x2 : Int32} {s : mG} (hM : sub 18482772870728515584 M) (h : KB M z s) : pk (F_X7_takeFour_L3 x1 x2 s) (fun τ => KB M z τ) := by
  unfold F_X7_takeFour_L3
  refine pk_whl (fun v => KB M z v.2.2) h (fun v hv => ?_)
  obtain ⟨y0, y1, y2⟩ := v
  exact W_X7_takeFour_B3 (sub_tr (by decide +kernel) hM) hv
theorem W_X7_takeFour {M : Nat} {z : mG} {a1 : Int32} {s : mG} (hM : sub 18482772870728515584 M) (h : KB M z s) : pk (F_X7_takeFour a1 s) (fun τ => KB M z τ) := by
  unfold F_X7_takeFour
  exact (W_X7_takeFour_L3 (sub_tr (by decide +kernel) hM) h)
theorem W_X7_stepOn {M : Nat} {z : mG} {s : mG} (hM : sub 36028797018963968 M) (h : KB M z s) : pk (F_X7_stepOn s) (fun τ => KB M z τ) := by
  unfold F_X7_stepOn
  extract_lets +onlyGivenNames s_1
  have h_2 : KB M z s_1 := KB_mu h (hM 55 (by decide +kernel))
  clear_value s_1
  refine pk_b1 pk_top (fun _ _ => ?_)
  extract_lets +onlyGivenNames s_3
  have h_4 : KB M z s_3 := KB_mu h_2 (hM 55 (by decide +kernel))
  clear_value s_3
  refine pk_b1 pk_top (fun _ _ => ?_)
  extract_lets +onlyGivenNames s_5
  have h_6 : KB M z s_5 := KB_mu h_4 (hM 55 (by decide +kernel))
  clear_value s_5
  refine pk_b1 pk_top (fun _ _ => ?_)
  extract_lets +onlyGivenNames s_7
  have h_8 : KB M z s_7 := KB_mu h_6 (hM 55 (by decide +kernel))
  clear_value s_7
  exact pk_some h_8
theorem W_X7_skipBlanks_41 {M : Nat} {z : mG} {s : mG} (hM : sub 0 M) (h : KB M z s) : pk (F_X7_skipBlanks_41 s) (fun τ => KB M z τ.2) := by
  unfold F_X7_skipBlanks_41
  refine pk_ite ?_ ?_
  · exact pk_some h
  · exact pk_some h
theorem W_X7_skipBlanks_B0 {M : Nat} {z : mG} {s : mG} (hM : sub 36028797018963968 M) (h : KB M z s) : pk (F_X7_skipBlanks_B0 s) (se (fun τ => KB M z τ) (fun τ => KB M z τ.2)) := by
  unfold F_X7_skipBlanks_B0
  refine pk_ite ?_ ?_
  · refine pk_b1r ?_
    exact (W_X7_skipBlanks_41 (sub_tr (by decide +kernel) hM) h)
  · refine pk_b1 pk_top (fun _ _ => ?_)
    refine pk_b1 pk_top (fun _ _ => ?_)
    refine pk_ite ?_ ?_
    · refine pk_b1r ?_
      exact (W_X7_skipBlanks_41 (sub_tr (by decide +kernel) hM) h)
    · extract_lets +onlyGivenNames s_1
      have h_2 : KB M z s_1 := KB_mu h (hM 55 (by decide +kernel))
      clear_value s_1
      exact pk_some h_2
theorem W_X7_skipBlanks_L0 {M : Nat} {z : mG} {s : mG} (hM : sub 36028797018963968 M) (h : KB M z s) : pk (F_X7_skipBlanks_L0 s) (fun τ => KB M z τ.2) := by
  unfold F_X7_skipBlanks_L0
  refine pk_whl (fun v => KB M z v) h (fun v hv => ?_)
  exact W_X7_skipBlanks_B0 (sub_tr (by decide +kernel) hM) hv
theorem W_X7_skipBlanks {M : Nat} {z : mG} {s : mG} (hM : sub 36028797018963968 M) (h : KB M z s) : pk (F_X7_skipBlanks s) (fun τ => KB M z τ.2) := by
  unfold F_X7_skipBlanks
  exact (W_X7_skipBlanks_L0 (sub_tr (by decide +kernel) hM) h)
theorem W_X7_addToken {M : Nat} {z : mG} {a1 : Int32} {a2 : Int32} {a3 : Int32} {s : mG} (hM : sub 110680464442257309696 M) (h : KB M z s) : pk (F_X7_addToken a1 a2 a3 s) (fun τ => KB M z τ) := by
  unfold F_X7_addToken
  refine pk_b2 (W_X10_add (sub_tr (by decide +kernel) hM) (hM 65 (by decide +kernel)) h) (fun _ s_1 (h_2 : KB M z s_1) => ?_)
  refine pk_b1 (W_X10_put (sub_tr (by decide +kernel) hM) (hM 66 (by decide +kernel)) h_2) (fun s_3 (h_4 : KB M z s_3) => ?_)
  refine pk_b1 (W_X10_put (sub_tr (by decide +kernel) hM) (hM 66 (by decide +kernel)) h_4) (fun s_5 (h_6 : KB M z s_5) => ?_)
  refine pk_b1 (W_X10_put (sub_tr (by decide +kernel) hM) (hM 66 (by decide +kernel)) h_6) (fun s_7 (h_8 : KB M z s_7) => ?_)
  exact pk_some h_8
theorem W_X7_splitWord_68 {M : Nat} {z : mG} {x1 : Int32} {y1 : Int32} {s : mG} (hM : sub 110680464442257309696 M) (h : KB M z s) : pk (F_X7_splitWord_68 x1 y1 s) (fun τ => KB M z τ) := by
  unfold F_X7_splitWord_68
  refine pk_b1 (W_X7_addToken (sub_tr (by decide +kernel) hM) h) (fun s_1 (h_2 : KB M z s_1) => ?_)
  exact pk_some h_2
theorem W_X7_splitWord_46 {M : Nat} {z : mG} {x1 : Int32} {s : mG} (hM : sub 110680464442257309696 M) (h : KB M z s) : pk (F_X7_splitWord_46 x1 s) (fun τ => KB M z τ) := by
  unfold F_X7_splitWord_46
  refine pk_b1 pk_top (fun _ _ => ?_)
  refine pk_ite ?_ ?_
  · exact (W_X7_splitWord_68 (sub_tr (by decide +kernel) hM) h)
  · exact (W_X7_splitWord_68 (sub_tr (by decide +kernel) hM) h)
theorem W_X7_splitWord_B5 {M : Nat} {z : mG} {x1 : Int32} {s : mG} (hM : sub 110716493239276273664 M) (h : KB M z s) : pk (F_X7_splitWord_B5 x1 s) (se (fun τ => KB M z τ.2) (fun τ => KB M z τ)) := by
  unfold F_X7_splitWord_B5
  refine pk_ite ?_ ?_
  · refine pk_b1r ?_
    exact (W_X7_splitWord_46 (sub_tr (by decide +kernel) hM) h)
  · refine pk_b1 pk_top (fun _ _ => ?_)
    refine pk_b1 pk_top (fun _ _ => ?_)
    refine pk_ite ?_ ?_
    · refine pk_b1r ?_
      exact (W_X7_splitWord_46 (sub_tr (by decide +kernel) hM) h)
    · extract_lets +onlyGivenNames s_1
      have h_2 : KB M z s_1 := KB_mu h (hM 55 (by decide +kernel))
      clear_value s_1
      exact pk_some h_2
theorem W_X7_splitWord_L5 {M : Nat} {z : mG} {x1 : Int32} {s : mG} (hM : sub 110716493239276273664 M) (h : KB M z s) : pk (F_X7_splitWord_L5 x1 s) (fun τ => KB M z τ) := by
  unfold F_X7_splitWord_L5
  refine pk_whl (fun v => KB M z v.2) h (fun v hv => ?_)
  obtain ⟨y0, y1⟩ := v
  exact W_X7_splitWord_B5 (sub_tr (by decide +kernel) hM) hv
theorem W_X7_splitWord {M : Nat} {z : mG} {s : mG} (hM : sub 110716493239276273664 M) (h : KB M z s) : pk (F_X7_splitWord s) (fun τ => KB M z τ) := by
  unfold F_X7_splitWord
  exact (W_X7_splitWord_L5 (sub_tr (by decide +kernel) hM) h)
theorem W_X7_splitNumber_100 {M : Nat} {z : mG} {x1 : Int32} {x2 : Int32} {y1 : Int32} {s : mG} (hM : sub 110680464442257309696 M) (h : KB M z s) : pk (F_X7_splitNumber_100 x1 x2 y1 s) (fun τ => KB M z τ) := by
  unfold F_X7_splitNumber_100
  refine pk_b1 (W_X7_addToken (sub_tr (by decide +kernel) hM) h) (fun s_1 (h_2 : KB M z s_1) => ?_)
  exact pk_some h_2
theorem W_X7_splitNumber_82 {M : Nat} {z : mG} {x1 : Int32} {x2 : Int32} {s : mG} (hM : sub 110680464442257309696 M) (h : KB M z s) : pk (F_X7_splitNumber_82 x1 x2 s) (fun τ => KB M z τ) := by
  unfold F_X7_splitNumber_82
  refine pk_ite ?_ ?_
  · exact (W_X7_splitNumber_100 (sub_tr (by decide +kernel) hM) h)
  · exact (W_X7_splitNumber_100 (sub_tr (by decide +kernel) hM) h)
theorem W_X7_splitNumber_68 {M : Nat} {z : mG} {x1 : Int32} {y0 : Int32} {s : mG} (hM : sub 36028797018963968 M) (h : KB M z s) : pk (F_X7_splitNumber_68 x1 y0 s) (se (fun τ => KB M z τ.2.2) (fun τ => KB M z τ)) := by
  unfold F_X7_splitNumber_68
  extract_lets +onlyGivenNames s_1
  have h_2 : KB M z s_1 := KB_mu h (hM 55 (by decide +kernel))
  clear_value s_1
  exact pk_some h_2
theorem W_X7_splitNumber_B7 {M : Nat} {z : mG} {x1 : Int32} {x2 : Int32} {s : mG} (hM : sub 110716493239276273664 M) (h : KB M z s) : pk (F_X7_splitNumber_B7 x1 x2 s) (se (fun τ => KB M z τ.2.2) (fun τ => KB M z τ)) := by
  unfold F_X7_splitNumber_B7
  refine pk_ite ?_ ?_
  · refine pk_b1r ?_
    exact (W_X7_splitNumber_82 (sub_tr (by decide +kernel) hM) h)
  · refine pk_b1 pk_top (fun _ _ => ?_)
    refine pk_b1 pk_top (fun _ _ => ?_)
    refine pk_ite ?_ ?_
    · refine pk_b1r ?_
      exact (W_X7_splitNumber_82 (sub_tr (by decide +kernel) hM) h)
    · refine pk_ite ?_ ?_
      · exact (W_X7_splitNumber_68 (sub_tr (by decide +kernel) hM) h)
      · refine pk_b1 pk_top (fun _ _ => ?_)
        exact (W_X7_splitNumber_68 (sub_tr (by decide +kernel) hM) h)
theorem W_X7_splitNumber_L7 {M : Nat} {z : mG} {x1 : Int32} {x2 : Int32} {s : mG} (hM : sub 110716493239276273664 M) (h : KB M z s) : pk (F_X7_splitNumber_L7 x1 x2 s) (fun τ => KB M z τ) := by
  unfold F_X7_splitNumber_L7
  refine pk_whl (fun v => KB M z v.2.2) h (fun v hv => ?_)
  obtain ⟨y0, y1, y2⟩ := v
  exact W_X7_splitNumber_B7 (sub_tr (by decide +kernel) hM) hv
theorem W_X7_splitNumber {M : Nat} {z : mG} {s : mG} (hM : sub 110716493239276273664 M) (h : KB M z s) : pk (F_X7_splitNumber s) (fun τ => KB M z τ) := by
  unfold F_X7_splitNumber
  exact (W_X7_splitNumber_L7 (sub_tr (by decide +kernel) hM) h)
theorem W_X7_splitTape_94 {M : Nat} {z : mG} {s : mG} (hM : sub 110680464442257309696 M) (h : KB M z s) : pk (F_X7_splitTape_94 s) (fun τ => KB M z τ) := by
  unfold F_X7_splitTape_94
  refine pk_b1 (W_X7_addToken (sub_tr (by decide +kernel) hM) h) (fun s_1 (h_2 : KB M z s_1) => ?_)
  exact pk_some h_2
theorem W_X7_splitTape_88 {M : Nat} {z : mG} {x1 : Int32} {s : mG} (hM : sub 0 M) (h : KB M z s) : pk (F_X7_splitTape_88 x1 s) (se (fun τ => KB M z τ.2) (fun τ => KB M z τ)) := by
  unfold F_X7_splitTape_88
  exact pk_some h
theorem W_X7_splitTape_B14 {M : Nat} {z : mG} {x1 : Int32} {s : mG} (hM : sub 110716493239276273664 M) (h : KB M z s) : pk (F_X7_splitTape_B14 x1 s) (se (fun τ => KB M z τ.2) (fun τ => KB M z τ)) := by
  unfold F_X7_splitTape_B14
  refine pk_ite ?_ ?_
  · refine pk_b1r ?_
    exact (W_X7_splitTape_94 (sub_tr (by decide +kernel) hM) h)
  · refine pk_b2 (W_X7_skipBlanks (sub_tr (by decide +kernel) hM) h) (fun _ s_1 (h_2 : KB M z s_1) => ?_)
    refine pk_ite ?_ ?_
    · refine pk_b1r ?_
      exact (W_X7_splitTape_94 (sub_tr (by decide +kernel) hM) h_2)
    · refine pk_b1 pk_top (fun _ _ => ?_)
      refine pk_b1 pk_top (fun _ _ => ?_)
      refine pk_ite ?_ ?_
      · refine pk_b1 pk_top (fun _ _ => ?_)
        refine pk_ite ?_ ?_
        · refine pk_b1 (W_X7_addToken (sub_tr (by decide +kernel) hM) h_2) (fun s_3 (h_4 : KB M z s_3) => ?_)
          extract_lets +onlyGivenNames s_5
          have h_6 : KB M z s_5 := KB_mu h_4 (hM 55 (by decide +kernel))
          clear_value s_5
          exact (W_X7_splitTape_88 (sub_tr (by decide +kernel) hM) h_6)
        · refine pk_b1 (W_X7_splitNumber (sub_tr (by decide +kernel) hM) h_2) (fun s_7 (h_8 : KB M z s_7) => ?_)
          exact (W_X7_splitTape_88 (sub_tr (by decide +kernel) hM) h_8)
      · refine pk_b1 (W_X7_splitWord (sub_tr (by decide +kernel) hM) h_2) (fun s_9 (h_10 : KB M z s_9) => ?_)
        exact (W_X7_splitTape_88 (sub_tr (by decide +kernel) hM) h_10)
theorem W_X7_splitTape_L14 {M : Nat} {z : mG} {x1 : Int32} {s : mG} (hM : sub 110716493239276273664 M) (h : KB M z s) : pk (F_X7_splitTape_L14 x1 s) (fun τ => KB M z τ) := by
  unfold F_X7_splitTape_L14
  refine pk_whl (fun v => KB M z v.2) h (fun v hv => ?_)
  obtain ⟨y0, y1⟩ := v
  exact W_X7_splitTape_B14 (sub_tr (by decide +kernel) hM) hv
theorem W_X7_splitTape {M : Nat} {z : mG} {s : mG} (hM : sub 110716493239276273664 M) (h : KB M z s) : pk (F_X7_splitTape s) (fun τ => KB M z τ) := by
  unfold F_X7_splitTape
  refine pk_b1 (W_X10_clear (sub_tr (by decide +kernel) hM) (hM 65 (by decide +kernel)) h) (fun s_1 (h_2 : KB M z s_1) => ?_)
  extract_lets +onlyGivenNames s_3
  have h_4 : KB M z s_3 := KB_mu h_2 (hM 55 (by decide +kernel))
  clear_value s_3
  exact (W_X7_splitTape_L14 (sub_tr (by decide +kernel) hM) h_4)
theorem W_X7_refuse {M : Nat} {z : mG} {a1 : Int32} {s : mG} (hM : sub 36028797018963968 M) (h : KB M z s) : pk (F_X7_refuse a1 s) (fun τ => KB M z τ.2) := by
  unfold F_X7_refuse
  extract_lets +onlyGivenNames s_1
  have h_2 : KB M z s_1 := KB_mu h (hM 55 (by decide +kernel))
  clear_value s_1
  extract_lets +onlyGivenNames s_3
  have h_4 : KB M z s_3 := KB_mu h_2 (hM 55 (by decide +kernel))
  clear_value s_3
  exact pk_some h_4
theorem W_X7_pass {M : Nat} {z : mG} {a1 : Int32} {s : mG} (hM : sub 36028797018963968 M) (h : KB M z s) : pk (F_X7_pass a1 s) (fun τ => KB M z τ.2) := by
  unfold F_X7_pass
  refine pk_ite ?_ ?_
  · refine pk_b1 (W_X7_stepOn (sub_tr (by decide +kernel) hM) h) (fun s_1 (h_2 : KB M z s_1) => ?_)
    exact pk_some h_2
  · refine pk_b2 (W_X7_refuse (sub_tr (by decide +kernel) hM) h) (fun _ s_3 (h_4 : KB M z s_3) => ?_)
    refine pk_pp ?_
    exact pk_some h_4
theorem W_X7_readHead_30 {M : Nat} {z : mG} {a2 : Nat} {s : mG} (hM : sub 0 M) (h : KB M z s) : pk (F_X7_readHead_30 a2 s) (fun τ => KB M z τ.2) := by
  unfold F_X7_readHead_30
  exact pk_some h
theorem W_X7_readHead {M : Nat} {z : mG} {a2 : Nat} {a1 : Int32} {s : mG} (hM : sub 36028797018963968 M) (h_a2_0 : M.testBit (a2 + 0) = true) (h : KB M z s) : pk (F_X7_readHead a2 a1 s) (fun τ => KB M z τ.2) := by
  unfold F_X7_readHead
  refine pk_ite ?_ ?_
  · refine pk_b2 (W_X10_add (sub_tr (by decide +kernel) hM) h_a2_0 h) (fun _ s_1 (h_2 : KB M z s_1) => ?_)
    refine pk_ite ?_ ?_
    · refine pk_b2 (W_X7_refuse (sub_tr (by decide +kernel) hM) h_2) (fun _ s_3 (h_4 : KB M z s_3) => ?_)
      refine pk_ite ?_ ?_
      · exact pk_some h_4
      · exact (W_X7_readHead_30 (sub_tr (by decide +kernel) hM) h_4)
    · exact (W_X7_readHead_30 (sub_tr (by decide +kernel) hM) h_2)
  · refine pk_b2 (W_X7_refuse (sub_tr (by decide +kernel) hM) h) (fun _ s_5 (h_6 : KB M z s_5) => ?_)
    refine pk_pp ?_
    exact pk_some h_6
theorem W_X7_readNamed {M : Nat} {z : mG} {a4 : Nat} {a1 : Int32} {a2 : Int32} {a3 : Int32} {a5 : Int32} {s : mG} (hM : sub 36028797018963968 M) (h_a4_1 : M.testBit (a4 + 1) = true) (h : KB M z s) : pk (F_X7_readNamed a4 a1 a2 a3 a5 s) (fun τ => KB M z τ.2) := by
  unfold F_X7_readNamed
  refine pk_b2 (W_X7_pass (sub_tr (by decide +kernel) hM) h) (fun _ s_1 (h_2 : KB M z s_1) => ?_)
  refine pk_ite ?_ ?_
  · exact pk_some h_2
  · refine pk_ite ?_ ?_
    · refine pk_b1 pk_top (fun _ _ => ?_)
      refine pk_ite ?_ ?_
      · refine pk_b2 (W_X7_refuse (sub_tr (by decide +kernel) hM) h_2) (fun _ s_3 (h_4 : KB M z s_3) => ?_)
        refine pk_pp ?_
        exact pk_some h_4
      · refine pk_b1 (W_X10_put (sub_tr (by decide +kernel) hM) h_a4_1 h_2) (fun s_5 (h_6 : KB M z s_5) => ?_)
        refine pk_b1 (W_X7_stepOn (sub_tr (by decide +kernel) hM) h_6) (fun s_7 (h_8 : KB M z s_7) => ?_)
        exact pk_some h_8
    · refine pk_b2 (W_X7_refuse (sub_tr (by decide +kernel) hM) h_2) (fun _ s_9 (h_10 : KB M z s_9) => ?_)
      refine pk_pp ?_
      exact pk_some h_10
theorem W_X7_readSign_71 {M : Nat} {z : mG} {s : mG} (hM : sub 0 M) (h : KB M z s) : pk (F_X7_readSign_71 s) (fun τ => KB M z τ.2) := by
  unfold F_X7_readSign_71
  exact pk_some h
theorem W_X7_readSign {M : Nat} {z : mG} {s : mG} (hM : sub 3494793310839504896 M) (h : KB M z s) : pk (F_X7_readSign s) (fun τ => KB M z τ.2) := by
  unfold F_X7_readSign
  refine pk_b2 (W_X7_readHead (sub_tr (by decide +kernel) hM) (hM 60 (by decide +kernel)) h) (fun _ s_1 (h_2 : KB M z s_1) => ?_)
  refine pk_ite ?_ ?_
  · exact pk_some h_2
  · refine pk_b1 (W_X7_stepOn (sub_tr (by decide +kernel) hM) h_2) (fun s_3 (h_4 : KB M z s_3) => ?_)
    refine pk_b2 (W_X7_readNamed (sub_tr (by decide +kernel) hM) (hM 61 (by decide +kernel)) h_4) (fun _ s_5 (h_6 : KB M z s_5) => ?_)
    refine pk_ite ?_ ?_
    · exact (W_X7_readSign_71 (sub_tr (by decide +kernel) hM) h_6)
    · refine pk_b2 (W_X7_readNamed (sub_tr (by decide +kernel) hM) (hM 61 (by decide +kernel)) h_6) (fun _ s_7 (h_8 : KB M z s_7) => ?_)
      refine pk_ite ?_ ?_
      · exact (W_X7_readSign_71 (sub_tr (by decide +kernel) hM) h_8)
      · refine pk_b2 (W_X7_pass (sub_tr (by decide +kernel) hM) h_8) (fun _ s_9 (h_10 : KB M z s_9) => ?_)
        refine pk_ite ?_ ?_
        · exact (W_X7_readSign_71 (sub_tr (by decide +kernel) hM) h_10)
        · exact pk_some h_10
theorem W_X7_readShift_97 {M : Nat} {z : mG} {s : mG} (hM : sub 0 M) (h : KB M z s) : pk (F_X7_readShift_97 s) (fun τ => KB M z τ.2) := by
  unfold F_X7_readShift_97
  exact pk_some h
theorem W_X7_readShift {M : Nat} {z : mG} {s : mG} (hM : sub 13871086852301127680 M) (h : KB M z s) : pk (F_X7_readShift s) (fun τ => KB M z τ.2) := by
  unfold F_X7_readShift
  refine pk_b2 (W_X7_readHead (sub_tr (by decide +kernel) hM) (hM 62 (by decide +kernel)) h) (fun _ s_1 (h_2 : KB M z s_1) => ?_)
  refine pk_ite ?_ ?_
  · exact (W_X7_readShift_97 (sub_tr (by decide +kernel) hM) h_2)
  · refine pk_b2 (W_X7_readNamed (sub_tr (by decide +kernel) hM) (hM 63 (by decide +kernel)) h_2) (fun _ s_3 (h_4 : KB M z s_3) => ?_)
    refine pk_ite ?_ ?_
    · exact (W_X7_readShift_97 (sub_tr (by decide +kernel) hM) h_4)
    · refine pk_b2 (W_X7_readNamed (sub_tr (by decide +kernel) hM) (hM 63 (by decide +kernel)) h_4) (fun _ s_5 (h_6 : KB M z s_5) => ?_)
      refine pk_ite ?_ ?_
      · exact (W_X7_readShift_97 (sub_tr (by decide +kernel) hM) h_6)
      · refine pk_b2 (W_X7_readNamed (sub_tr (by decide +kernel) hM) (hM 63 (by decide +kernel)) h_6) (fun _ s_7 (h_8 : KB M z s_7) => ?_)
        refine pk_ite ?_ ?_
        · exact (W_X7_readShift_97 (sub_tr (by decide +kernel) hM) h_8)
        · refine pk_b2 (W_X7_readNamed (sub_tr (by decide +kernel) hM) (hM 63 (by decide +kernel)) h_8) (fun _ s_9 (h_10 : KB M z s_9) => ?_)
          refine pk_ite ?_ ?_
          · exact (W_X7_readShift_97 (sub_tr (by decide +kernel) hM) h_10)
          · refine pk_b2 (W_X7_pass (sub_tr (by decide +kernel) hM) h_10) (fun _ s_11 (h_12 : KB M z s_11) => ?_)
            refine pk_ite ?_ ?_
            · exact (W_X7_readShift_97 (sub_tr (by decide +kernel) hM) h_12)
            · exact pk_some h_12
theorem W_X10_push {M : Nat} {z : mG} {t : Nat} {a1 : Int32} {s : mG} (hM : sub 0 M) (h_t_0 : M.testBit (t + 0) = true) (h_t_1 : M.testBit (t + 1) = true) (h : KB M z s) : pk (F_X10_push t a1 s) (fun τ => KB M z τ) := by
  unfold F_X10_push
  refine pk_ite ?_ ?_
  · exact pk_some h
  · extract_lets +onlyGivenNames s_1
    have h_2 : KB M z s_1 := KB_mu h h_t_0
    clear_value s_1
    refine pk_b1 (W_X10_put (sub_tr (by decide +kernel) hM) h_t_1 h_2) (fun s_3 (h_4 : KB M z s_3) => ?_)
    exact pk_some h_4
theorem W_X7_emitIfAny {M : Nat} {z : mG} {a1 : Int32} {s : mG} (hM : sub 864691128455135232 M) (h : KB M z s) : pk (F_X7_emitIfAny a1 s) (fun τ => KB M z τ) := by
  unfold F_X7_emitIfAny
  refine pk_ite ?_ ?_
  · exact pk_some h
  · refine pk_b1 (W_X10_push (sub_tr (by decide +kernel) hM) (hM 58 (by decide +kernel)) (hM 59 (by decide +kernel)) h) (fun s_1 (h_2 : KB M z s_1) => ?_)
    exact pk_some h_2
theorem W_X7_readUnit_68 {M : Nat} {z : mG} {s : mG} (hM : sub 36028797018963968 M) (h : KB M z s) : pk (F_X7_readUnit_68 s) (fun τ => KB M z τ.2) := by
  unfold F_X7_readUnit_68
  refine pk_b1 (W_X7_stepOn (sub_tr (by decide +kernel) hM) h) (fun s_1 (h_2 : KB M z s_1) => ?_)
  exact pk_some h_2
theorem W_X7_readUnit_62 {M : Nat} {z : mG} {s : mG} (hM : sub 36028797018963968 M) (h : KB M z s) : pk (F_X7_readUnit_62 s) (fun τ => KB M z τ.2) := by
  unfold F_X7_readUnit_62
  refine pk_b2 (W_X7_refuse (sub_tr (by decide +kernel) hM) h) (fun _ s_1 (h_2 : KB M z s_1) => ?_)
  refine pk_pp ?_
  exact pk_some h_2
theorem W_X7_readUnit {M : Nat} {z : mG} {s : mG} (hM : sub 900719925474099200 M) (h : KB M z s) : pk (F_X7_readUnit s) (fun τ => KB M z τ.2) := by
  unfold F_X7_readUnit
  extract_lets +onlyGivenNames v_1
  clear_value v_1
  refine pk_ite ?_ ?_
  · refine pk_b1 (W_X10_push (sub_tr (by decide +kernel) hM) (hM 58 (by decide +kernel)) (hM 59 (by decide +kernel)) h) (fun s_2 (h_3 : KB M z s_2) => ?_)
    exact (W_X7_readUnit_68 (sub_tr (by decide +kernel) hM) h_3)
  · refine pk_ite ?_ ?_
    · exact (W_X7_readUnit_62 (sub_tr (by decide +kernel) hM) h)
    · refine pk_ite ?_ ?_
      · exact (W_X7_readUnit_62 (sub_tr (by decide +kernel) hM) h)
      · refine pk_b1 (W_X10_push (sub_tr (by decide +kernel) hM) (hM 58 (by decide +kernel)) (hM 59 (by decide +kernel)) h) (fun s_4 (h_5 : KB M z s_4) => ?_)
        exact (W_X7_readUnit_68 (sub_tr (by decide +kernel) hM) h_5)
theorem W_X7_readPart {M : Nat} {z : mG} {s : mG} (hM : sub 900719925474099200 M) (h : KB M z s) : pk (F_X7_readPart s) (fun τ => KB M z τ.2) := by
  unfold F_X7_readPart
  refine pk_ite ?_ ?_
  · refine pk_ite ?_ ?_
    · refine pk_b2 (W_X7_refuse (sub_tr (by decide +kernel) hM) h) (fun _ s_1 (h_2 : KB M z s_1) => ?_)
      refine pk_pp ?_
      exact pk_some h_2
    · refine pk_b1 (W_X10_push (sub_tr (by decide +kernel) hM) (hM 58 (by decide +kernel)) (hM 59 (by decide +kernel)) h) (fun s_3 (h_4 : KB M z s_3) => ?_)
      refine pk_b1 (W_X7_stepOn (sub_tr (by decide +kernel) hM) h_4) (fun s_5 (h_6 : KB M z s_5) => ?_)
      exact pk_some h_6
  · refine pk_b2 (W_X7_refuse (sub_tr (by decide +kernel) hM) h) (fun _ s_7 (h_8 : KB M z s_7) => ?_)
    refine pk_pp ?_
    exact pk_some h_8
theorem W_X7_readSum_114 {M : Nat} {z : mG} {x1 : Int32} {s : mG} (hM : sub 864691128455135232 M) (h : KB M z s) : pk (F_X7_readSum_114 x1 s) (fun τ => KB M z τ.2) := by
  unfold F_X7_readSum_114
  refine pk_b1 (W_X7_emitIfAny (sub_tr (by decide +kernel) hM) h) (fun s_1 (h_2 : KB M z s_1) => ?_)
  exact pk_some h_2
theorem W_X7_readSum_91 {M : Nat} {z : mG} {s : mG} (hM : sub 0 M) (h : KB M z s) : pk (F_X7_readSum_91 s) (fun τ => KB M z τ.2) := by
  unfold F_X7_readSum_91
  exact pk_some h
theorem W_X7_readSum_105 {M : Nat} {z : mG} {x1 : Int32} {x2 : Int32} {y1 : Int32} {s : mG} (hM : sub 864691128455135232 M) (h : KB M z s) : pk (F_X7_readSum_105 x1 x2 y1 s) (se (fun τ => KB M z τ.2.2) (fun τ => KB M z τ.2)) := by
  unfold F_X7_readSum_105
  refine pk_b1 (W_X7_emitIfAny (sub_tr (by decide +kernel) hM) h) (fun s_1 (h_2 : KB M z s_1) => ?_)
  exact pk_some h_2
theorem W_X7_readSum_93 {M : Nat} {z : mG} {x1 : Int32} {x2 : Int32} {x3 : Int32} {s : mG} (hM : sub 864691128455135232 M) (h : KB M z s) : pk (F_X7_readSum_93 x1 x2 x3 s) (se (fun τ => KB M z τ.2.2) (fun τ => KB M z τ.2)) := by
  unfold F_X7_readSum_93
  refine pk_ite ?_ ?_
  · exact (W_X7_readSum_105 (sub_tr (by decide +kernel) hM) h)
  · exact (W_X7_readSum_105 (sub_tr (by decide +kernel) hM) h)
theorem W_X7_readSum_68 {M : Nat} {z : mG} {x1 : Int32} {x2 : Int32} {x3 : Int32} {s : mG} (hM : sub 900719925474099200 M) (h : KB M z s) : pk (F_X7_readSum_68 x1 x2 x3 s) (se (fun τ => KB M z τ.2.2) (fun τ => KB M z τ.2)) := by
  unfold F_X7_readSum_68
  refine pk_ite ?_ ?_
  · refine pk_b2 (W_X7_readPart (sub_tr (by decide +kernel) hM) h) (fun _ s_1 (h_2 : KB M z s_1) => ?_)
    refine pk_ite ?_ ?_
    · refine pk_b1r ?_
      exact (W_X7_readSum_91 (sub_tr (by decide +kernel) hM) h_2)
    · exact (W_X7_readSum_93 (sub_tr (by decide +kernel) hM) h_2)
  · refine pk_b2 (W_X7_readUnit (sub_tr (by decide +kernel) hM) h) (fun _ s_3 (h_4 : KB M z s_3) => ?_)
    refine pk_ite ?_ ?_
    · refine pk_b1r ?_
      exact (W_X7_readSum_91 (sub_tr (by decide +kernel) hM) h_4)
    · exact (W_X7_readSum_93 (sub_tr (by decide +kernel) hM) h_4)
theorem W_X7_readSum_67 {M : Nat} {z : mG} {x2 : Int32} {x3 : Int32} {y0 : Int32} {s : mG} (hM : sub 900719925474099200 M) (h : KB M z s) : pk (F_X7_readSum_67 x2 x3 y0 s) (se (fun τ => KB M z τ.2.2) (fun τ => KB M z τ.2)) := by
  unfold F_X7_readSum_67
  exact (W_X7_readSum_68 (sub_tr (by decide +kernel) hM) h)
theorem W_X7_readSum_51 {M : Nat} {z : mG} {x1 : Int32} {x2 : Int32} {x3 : Int32} {s : mG} (hM : sub 900719925474099200 M) (h : KB M z s) : pk (F_X7_readSum_51 x1 x2 x3 s) (se (fun τ => KB M z τ.2.2) (fun τ => KB M z τ.2)) := by
  unfold F_X7_readSum_51
  refine pk_b1 (W_X7_emitIfAny (sub_tr (by decide +kernel) hM) h) (fun s_1 (h_2 : KB M z s_1) => ?_)
  refine pk_ite ?_ ?_
  · exact (W_X7_readSum_67 (sub_tr (by decide +kernel) hM) h_2)
  · exact (W_X7_readSum_67 (sub_tr (by decide +kernel) hM) h_2)
theorem W_X7_readSum_B13 {M : Nat} {z : mG} {x1 : Int32} {x2 : Int32} {s : mG} (hM : sub 900719925474099200 M) (h : KB M z s) : pk (F_X7_readSum_B13 x1 x2 s) (se (fun τ => KB M z τ.2.2) (fun τ => KB M z τ.2)) := by
  unfold F_X7_readSum_B13
  refine pk_ite ?_ ?_
  · refine pk_b1r ?_
    exact (W_X7_readSum_114 (sub_tr (by decide +kernel) hM) h)
  · refine pk_b1 pk_top (fun _ _ => ?_)
    refine pk_ite ?_ ?_
    · refine pk_b1r ?_
      exact (W_X7_readSum_114 (sub_tr (by decide +kernel) hM) h)
    · refine pk_b1 (W_X7_stepOn (sub_tr (by decide +kernel) hM) h) (fun s_1 (h_2 : KB M z s_1) => ?_)
      refine pk_ite ?_ ?_
      · exact (W_X7_readSum_51 (sub_tr (by decide +kernel) hM) h_2)
      · refine pk_ite ?_ ?_
        · exact (W_X7_readSum_51 (sub_tr (by decide +kernel) hM) h_2)
        · exact (W_X7_readSum_68 (sub_tr (by decide +kernel) hM) h_2)
theorem W_X7_readSum_L13 {M : Nat} {z : mG} {x1 : Int32} {x2 : Int32} {s : mG} (hM : sub 900719925474099200 M) (h : KB M z s) : pk (F_X7_readSum_L13 x1 x2 s) (fun τ => KB M z τ.2) := by
  unfold F_X7_readSum_L13
  refine pk_whl (fun v => KB M z v.2.2) h (fun v hv => ?_)
  obtain ⟨y0, y1, y2⟩ := v
  exact W_X7_readSum_B13 (sub_tr (by decide +kernel) hM) hv
theorem W_X7_readSum {M : Nat} {z : mG} {s : mG} (hM : sub 900719925474099200 M) (h : KB M z s) : pk (F_X7_readSum s) (fun τ => KB M z τ.2) := by
  unfold F_X7_readSum
  refine pk_b2 (W_X7_readUnit (sub_tr (by decide +kernel) hM) h) (fun _ s_1 (h_2 : KB M z s_1) => ?_)
  refine pk_ite ?_ ?_
  · exact pk_some h_2
  · exact (W_X7_readSum_L13 (sub_tr (by decide +kernel) hM) h_2)
theorem W_X7_hold {M : Nat} {z : mG} {a1 : Int32} {s : mG} (hM : sub 147609981386695376896 M) (h : KB M z s) : pk (F_X7_hold a1 s) (fun τ => KB M z τ) := by
  unfold F_X7_hold
  refine pk_b1 (W_X11_put (sub_tr (by decide +kernel) hM) (hM 67 (by decide +kernel)) h) (fun s_1 (h_2 : KB M z s_1) => ?_)
  extract_lets +onlyGivenNames s_3
  have h_4 : KB M z s_3 := KB_mu h_2 (hM 55 (by decide +kernel))
  clear_value s_3
  exact pk_some h_4
theorem W_X7_readOpenings_71 {M : Nat} {z : mG} {s : mG} (hM : sub 0 M) (h : KB M z s) : pk (F_X7_readOpenings_71 s) (fun τ => KB M z τ.2) := by
  unfold F_X7_readOpenings_71
  exact pk_some h
theorem W_X7_readOpenings_28 {M : Nat} {z : mG} {x1 : Int32} {s : mG} (hM : sub 147609981386695376896 M) (h : KB M z s) : pk (F_X7_readOpenings_28 x1 s) (se (fun τ => KB M z τ.2) (fun τ => KB M z τ.2)) := by
  unfold F_X7_readOpenings_28
  refine pk_ite ?_ ?_
  · refine pk_b1 (W_X7_hold (sub_tr (by decide +kernel) hM) h) (fun s_1 (h_2 : KB M z s_1) => ?_)
    extract_lets +onlyGivenNames s_3
    have h_4 : KB M z s_3 := KB_mu h_2 (hM 55 (by decide +kernel))
    clear_value s_3
    refine pk_b1 (W_X7_stepOn (sub_tr (by decide +kernel) hM) h_4) (fun s_5 (h_6 : KB M z s_5) => ?_)
    exact pk_some h_6
  · refine pk_b2 (W_X7_refuse (sub_tr (by decide +kernel) hM) h) (fun _ s_7 (h_8 : KB M z s_7) => ?_)
    refine pk_pp ?_
    exact pk_some h_8
theorem W_X7_readOpenings_B2 {M : Nat} {z : mG} {x1 : Int32} {s : mG} (hM : sub 147609981386695376896 M) (h : KB M z s) : pk (F_X7_readOpenings_B2 x1 s) (se (fun τ => KB M z τ.2) (fun τ => KB M z τ.2)) := by
  unfold F_X7_readOpenings_B2
  refine pk_ite ?_ ?_
  · refine pk_b1r ?_
    exact (W_X7_readOpenings_71 (sub_tr (by decide +kernel) hM) h)
  · refine pk_ite ?_ ?_
    · exact (W_X7_readOpenings_28 (sub_tr (by decide +kernel) hM) h)
    · refine pk_ite ?_ ?_
      · exact (W_X7_readOpenings_28 (sub_tr (by decide +kernel) hM) h)
      · refine pk_b1r ?_
        exact (W_X7_readOpenings_71 (sub_tr (by decide +kernel) hM) h)
theorem W_X7_readOpenings_L2 {M : Nat} {z : mG} {x1 : Int32} {s : mG} (hM : sub 147609981386695376896 M) (h : KB M z s) : pk (F_X7_readOpenings_L2 x1 s) (fun τ => KB M z τ.2) := by
  unfold F_X7_readOpenings_L2
  refine pk_whl (fun v => KB M z v.2) h (fun v hv => ?_)
  obtain ⟨y0, y1⟩ := v
  exact W_X7_readOpenings_B2 (sub_tr (by decide +kernel) hM) hv
theorem W_X7_readOpenings {M : Nat} {z : mG} {s : mG} (hM : sub 147609981386695376896 M) (h : KB M z s) : pk (F_X7_readOpenings s) (fun τ => KB M z τ.2) := by
  unfold F_X7_readOpenings
  exact (W_X7_readOpenings_L2 (sub_tr (by decide +kernel) hM) h)
theorem W_X7_closeNots_B2 {M : Nat} {z : mG} {x1 : Int32} {s : mG} (hM : sub 900719925474099200 M) (h : KB M z s) : pk (F_X7_closeNots_B2 x1 s) (se (fun τ => KB M z τ.2) (fun τ => KB M z τ)) := by
  unfold F_X7_closeNots_B2
  refine pk_ite ?_ ?_
  · exact pk_some h
  · refine pk_b1 pk_top (fun _ _ => ?_)
    refine pk_ite ?_ ?_
    · refine pk_b1 (W_X10_push (sub_tr (by decide +kernel) hM) (hM 58 (by decide +kernel)) (hM 59 (by decide +kernel)) h) (fun s_1 (h_2 : KB M z s_1) => ?_)
      extract_lets +onlyGivenNames s_3
      have h_4 : KB M z s_3 := KB_mu h_2 (hM 55 (by decide +kernel))
      clear_value s_3
      extract_lets +onlyGivenNames s_5
      have h_6 : KB M z s_5 := KB_mu h_4 (hM 55 (by decide +kernel))
      clear_value s_5
      exact pk_some h_6
    · exact pk_some h
theorem W_X7_closeNots_L2 {M : Nat} {z : mG} {x1 : Int32} {s : mG} (hM : sub 900719925474099200 M) (h : KB M z s) : pk (F_X7_closeNots_L2 x1 s) (fun τ => KB M z τ) := by
  unfold F_X7_closeNots_L2
  refine pk_whl (fun v => KB M z v.2) h (fun v hv => ?_)
  obtain ⟨y0, y1⟩ := v
  exact W_X7_closeNots_B2 (sub_tr (by decide +kernel) hM) hv
theorem W_X7_closeNots {M : Nat} {z : mG} {s : mG} (hM : sub 900719925474099200 M) (h : KB M z s) : pk (F_X7_closeNots s) (fun τ => KB M z τ) := by
  unfold F_X7_closeNots
  exact (W_X7_closeNots_L2 (sub_tr (by decide +kernel) hM) h)
theorem W_X7_joinWhatWaits_50 {M : Nat} {z : mG} {x1 : Int32} {x2 : Int32} {y1 : Int32} {s : mG} (hM : sub 900719925474099200 M) (h : KB M z s) : pk (F_X7_joinWhatWaits_50 x1 x2 y1 s) (se (fun τ => KB M z τ.2.2) (fun τ => KB M z τ)) := by
  unfold F_X7_joinWhatWaits_50
  refine pk_b1 (W_X10_push (sub_tr (by decide +kernel) hM) (hM 58 (by decide +kernel)) (hM 59 (by decide +kernel)) h) (fun s_1 (h_2 : KB M z s_1) => ?_)
  extract_lets +onlyGivenNames s_3
  have h_4 : KB M z s_3 := KB_mu h_2 (hM 55 (by decide +kernel))
  clear_value s_3
  exact pk_some h_4
theorem W_X7_joinWhatWaits_32 {M : Nat} {z : mG} {x1 : Int32} {x2 : Int32} {x3 : Int32} {s : mG} (hM : sub 900719925474099200 M) (h : KB M z s) : pk (F_X7_joinWhatWaits_32 x1 x2 x3 s) (se (fun τ => KB M z τ.2.2) (fun τ => KB M z τ)) := by
  unfold F_X7_joinWhatWaits_32
  refine pk_ite ?_ ?_
  · exact (W_X7_joinWhatWaits_50 (sub_tr (by decide +kernel) hM) h)
  · exact (W_X7_joinWhatWaits_50 (sub_tr (by decide +kernel) hM) h)
theorem W_X7_joinWhatWaits_B2 {M : Nat} {z : mG} {x1 : Int32} {x2 : Int32} {s : mG} (hM : sub 900719925474099200 M) (h : KB M z s) : pk (F_X7_joinWhatWaits_B2 x1 x2 s) (se (fun τ => KB M z τ.2.2) (fun τ => KB M z τ)) := by
  unfold F_X7_joinWhatWaits_B2
  refine pk_ite ?_ ?_
  · exact pk_some h
  · refine pk_b1 pk_top (fun _ _ => ?_)
    refine pk_ite ?_ ?_
    · exact (W_X7_joinWhatWaits_32 (sub_tr (by decide +kernel) hM) h)
    · refine pk_ite ?_ ?_
      · refine pk_ite ?_ ?_
        · exact (W_X7_joinWhatWaits_32 (sub_tr (by decide +kernel) hM) h)
        · exact pk_some h
      · exact pk_some h
theorem W_X7_joinWhatWaits_L2 {M : Nat} {z : mG} {x1 : Int32} {x2 : Int32} {s : mG} (hM : sub 900719925474099200 M) (h : KB M z s) : pk (F_X7_joinWhatWaits_L2 x1 x2 s) (fun τ => KB M z τ) := by
  unfold F_X7_joinWhatWaits_L2
  refine pk_whl (fun v => KB M z v.2.2) h (fun v hv => ?_)
  obtain ⟨y0, y1, y2⟩ := v
  exact W_X7_joinWhatWaits_B2 (sub_tr (by decide +kernel) hM) hv
theorem W_X7_joinWhatWaits {M : Nat} {z : mG} {a1 : Int32} {s : mG} (hM : sub 900719925474099200 M) (h : KB M z s) : pk (F_X7_joinWhatWaits a1 s) (fun τ => KB M z τ) := by
  unfold F_X7_joinWhatWaits
  exact (W_X7_joinWhatWaits_L2 (sub_tr (by decide +kernel) hM) h)
theorem W_X7_readClosings_B6 {M : Nat} {z : mG} {x1 : Int32} {s : mG} (hM : sub 900719925474099200 M) (h : KB M z s) : pk (F_X7_readClosings_B6 x1 s) (se (fun τ => KB M z τ.2) (fun τ => KB M z τ)) := by
  unfold F_X7_readClosings_B6
  refine pk_ite ?_ ?_
  · exact pk_some h
  · refine pk_ite ?_ ?_
    · refine pk_ite ?_ ?_
      · exact pk_some h
      · refine pk_b1 (W_X7_joinWhatWaits (sub_tr (by decide +kernel) hM) h) (fun s_1 (h_2 : KB M z s_1) => ?_)
        extract_lets +onlyGivenNames s_3
        have h_4 : KB M z s_3 := KB_mu h_2 (hM 55 (by decide +kernel))
        clear_value s_3
        extract_lets +onlyGivenNames s_5
        have h_6 : KB M z s_5 := KB_mu h_4 (hM 55 (by decide +kernel))
        clear_value s_5
        refine pk_b1 (W_X7_stepOn (sub_tr (by decide +kernel) hM) h_6) (fun s_7 (h_8 : KB M z s_7) => ?_)
        refine pk_b1 (W_X7_closeNots (sub_tr (by decide +kernel) hM) h_8) (fun s_9 (h_10 : KB M z s_9) => ?_)
        exact pk_some h_10
    · exact pk_some h
theorem W_X7_readClosings_L6 {M : Nat} {z : mG} {x1 : Int32} {s : mG} (hM : sub 900719925474099200 M) (h : KB M z s) : pk (F_X7_readClosings_L6 x1 s) (fun τ => KB M z τ) := by
  unfold F_X7_readClosings_L6
  refine pk_whl (fun v => KB M z v.2) h (fun v hv => ?_)
  obtain ⟨y0, y1⟩ := v
  exact W_X7_readClosings_B6 (sub_tr (by decide +kernel) hM) hv
theorem W_X7_readClosings {M : Nat} {z : mG} {s : mG} (hM : sub 900719925474099200 M) (h : KB M z s) : pk (F_X7_readClosings s) (fun τ => KB M z τ) := by
  unfold F_X7_readClosings
  refine pk_b1 (W_X7_closeNots (sub_tr (by decide +kernel) hM) h) (fun s_1 (h_2 : KB M z s_1) => ?_)
  exact (W_X7_readClosings_L6 (sub_tr (by decide +kernel) hM) h_2)
theorem W_X7_readCondition_33 {M : Nat} {z : mG} {s : mG} (hM : sub 0 M) (h : KB M z s) : pk (F_X7_readCondition_33 s) (fun τ => KB M z τ.2) := by
  unfold F_X7_readCondition_33
  exact pk_some h
theorem W_X7_readCondition_140 {M : Nat} {z : mG} {x1 : Int32} {s : mG} (hM : sub 147609981386695376896 M) (h : KB M z s) : pk (F_X7_readCondition_140 x1 s) (se (fun τ => KB M z τ.2) (fun τ => KB M z τ.2)) := by
  unfold F_X7_readCondition_140
  refine pk_b1 (W_X7_hold (sub_tr (by decide +kernel) hM) h) (fun s_1 (h_2 : KB M z s_1) => ?_)
  refine pk_b1 (W_X7_stepOn (sub_tr (by decide +kernel) hM) h_2) (fun s_3 (h_4 : KB M z s_3) => ?_)
  exact pk_some h_4
theorem W_X7_readCondition_134 {M : Nat} {z : mG} {s : mG} (hM : sub 0 M) (h : KB M z s) : pk (F_X7_readCondition_134 s) (fun τ => KB M z τ.2) := by
  unfold F_X7_readCondition_134
  exact pk_some h
theorem W_X7_readCondition_96 {M : Nat} {z : mG} {x1 : Int32} {y1 : Int32} {s : mG} (hM : sub 148474672515150512128 M) (h : KB M z s) : pk (F_X7_readCondition_96 x1 y1 s) (se (fun τ => KB M z τ.2) (fun τ => KB M z τ.2)) := by
  unfold F_X7_readCondition_96
  refine pk_b1 (W_X7_joinWhatWaits (sub_tr (by decide +kernel) hM) h) (fun s_1 (h_2 : KB M z s_1) => ?_)
  refine pk_ite ?_ ?_
  · exact (W_X7_readCondition_140 (sub_tr (by decide +kernel) hM) h_2)
  · refine pk_ite ?_ ?_
    · exact (W_X7_readCondition_140 (sub_tr (by decide +kernel) hM) h_2)
    · refine pk_ite ?_ ?_
      · refine pk_b1r ?_
        exact (W_X7_readCondition_134 (sub_tr (by decide +kernel) hM) h_2)
      · refine pk_b2 (W_X7_refuse (sub_tr (by decide +kernel) hM) h_2) (fun _ s_3 (h_4 : KB M z s_3) => ?_)
        refine pk_ite ?_ ?_
        · exact pk_some h_4
        · refine pk_b1r ?_
          exact (W_X7_readCondition_134 (sub_tr (by decide +kernel) hM) h_4)
theorem W_X7_readCondition_B12 {M : Nat} {z : mG} {x1 : Int32} {s : mG} (hM : sub 148474672515150512128 M) (h : KB M z s) : pk (F_X7_readCondition_B12 x1 s) (se (fun τ => KB M z τ.2) (fun τ => KB M z τ.2)) := by
  unfold F_X7_readCondition_B12
  refine pk_ite ?_ ?_
  · exact pk_some h
  · refine pk_b2 (W_X7_readOpenings (sub_tr (by decide +kernel) hM) h) (fun _ s_1 (h_2 : KB M z s_1) => ?_)
    refine pk_ite ?_ ?_
    · refine pk_b1r ?_
      exact (W_X7_readCondition_33 (sub_tr (by decide +kernel) hM) h_2)
    · refine pk_b2 (W_X7_readSum (sub_tr (by decide +kernel) hM) h_2) (fun _ s_3 (h_4 : KB M z s_3) => ?_)
      refine pk_ite ?_ ?_
      · refine pk_b1r ?_
        exact (W_X7_readCondition_33 (sub_tr (by decide +kernel) hM) h_4)
      · refine pk_b1 pk_top (fun _ _ => ?_)
        refine pk_ite ?_ ?_
        · refine pk_b2 (W_X7_refuse (sub_tr (by decide +kernel) hM) h_4) (fun _ s_5 (h_6 : KB M z s_5) => ?_)
          refine pk_pp ?_
          exact pk_some h_6
        · refine pk_b1 (W_X7_stepOn (sub_tr (by decide +kernel) hM) h_4) (fun s_7 (h_8 : KB M z s_7) => ?_)
          refine pk_b2 (W_X7_readSum (sub_tr (by decide +kernel) hM) h_8) (fun _ s_9 (h_10 : KB M z s_9) => ?_)
          refine pk_ite ?_ ?_
          · exact pk_some h_10
          · refine pk_b1 (W_X10_push (sub_tr (by decide +kernel) hM) (hM 58 (by decide +kernel)) (hM 59 (by decide +kernel)) h_10) (fun s_11 (h_12 : KB M z s_11) => ?_)
            refine pk_b1 (W_X7_readClosings (sub_tr (by decide +kernel) hM) h_12) (fun s_13 (h_14 : KB M z s_13) => ?_)
            refine pk_ite ?_ ?_
            · exact (W_X7_readCondition_96 (sub_tr (by decide +kernel) hM) h_14)
            · exact (W_X7_readCondition_96 (sub_tr (by decide +kernel) hM) h_14)
theorem W_X7_readCondition_L12 {M : Nat} {z : mG} {x1 : Int32} {s : mG} (hM : sub 148474672515150512128 M) (h : KB M z s) : pk (F_X7_readCondition_L12 x1 s) (fun τ => KB M z τ.2) := by
  unfold F_X7_readCondition_L12
  refine pk_whl (fun v => KB M z v.2) h (fun v hv => ?_)
  obtain ⟨y0, y1⟩ := v
  exact W_X7_readCondition_B12 (sub_tr (by decide +kernel) hM) hv
theorem W_X7_readCondition {M : Nat} {z : mG} {s : mG} (hM : sub 148474672515150512128 M) (h : KB M z s) : pk (F_X7_readCondition s) (fun τ => KB M z τ.2) := by
  unfold F_X7_readCondition
  extract_lets +onlyGivenNames s_1
  have h_2 : KB M z s_1 := KB_mu h (hM 55 (by decide +kernel))
  clear_value s_1
  extract_lets +onlyGivenNames s_3
  have h_4 : KB M z s_3 := KB_mu h_2 (hM 55 (by decide +kernel))
  clear_value s_3
  exact (W_X7_readCondition_L12 (sub_tr (by decide +kernel) hM) h_4)
theorem W_X7_readLaw_126 {M : Nat} {z : mG} {x1 : Int32} {s : mG} (hM : sub 180143985094819840 M) (h : KB M z s) : pk (F_X7_readLaw_126 x1 s) (fun τ => KB M z τ.2) := by
  unfold F_X7_readLaw_126
  refine pk_b1 (W_X10_put (sub_tr (by decide +kernel) hM) (hM 57 (by decide +kernel)) h) (fun s_1 (h_2 : KB M z s_1) => ?_)
  refine pk_b2 (W_X7_pass (sub_tr (by decide +kernel) hM) h_2) (fun _ s_3 (h_4 : KB M z s_3) => ?_)
  refine pk_pp ?_
  exact pk_some h_4
theorem W_X7_readLaw {M : Nat} {z : mG} {s : mG} (hM : sub 148690845297264295936 M) (h : KB M z s) : pk (F_X7_readLaw s) (fun τ => KB M z τ.2) := by
  unfold F_X7_readLaw
  refine pk_b1 pk_top (fun _ _ => ?_)
  refine pk_ite ?_ ?_
  · refine pk_b2 (W_X7_refuse (sub_tr (by decide +kernel) hM) h) (fun _ s_1 (h_2 : KB M z s_1) => ?_)
    refine pk_pp ?_
    exact pk_some h_2
  · refine pk_b2 (W_X10_add (sub_tr (by decide +kernel) hM) (hM 56 (by decide +kernel)) h) (fun _ s_3 (h_4 : KB M z s_3) => ?_)
    refine pk_ite ?_ ?_
    · refine pk_b2 (W_X7_refuse (sub_tr (by decide +kernel) hM) h_4) (fun _ s_5 (h_6 : KB M z s_5) => ?_)
      refine pk_pp ?_
      exact pk_some h_6
    · refine pk_b1 (W_X10_put (sub_tr (by decide +kernel) hM) (hM 57 (by decide +kernel)) h_4) (fun s_7 (h_8 : KB M z s_7) => ?_)
      refine pk_b1 (W_X10_put (sub_tr (by decide +kernel) hM) (hM 57 (by decide +kernel)) h_8) (fun s_9 (h_10 : KB M z s_9) => ?_)
      refine pk_b1 (W_X7_stepOn (sub_tr (by decide +kernel) hM) h_10) (fun s_11 (h_12 : KB M z s_11) => ?_)
      refine pk_b2 (W_X7_readSum (sub_tr (by decide +kernel) hM) h_12) (fun _ s_13 (h_14 : KB M z s_13) => ?_)
      refine pk_ite ?_ ?_
      · exact pk_some h_14
      · refine pk_b1 (W_X10_put (sub_tr (by decide +kernel) hM) (hM 57 (by decide +kernel)) h_14) (fun s_15 (h_16 : KB M z s_15) => ?_)
        refine pk_ite ?_ ?_
        · refine pk_b1 (W_X7_stepOn (sub_tr (by decide +kernel) hM) h_16) (fun s_17 (h_18 : KB M z s_17) => ?_)
          refine pk_b2 (W_X7_readCondition (sub_tr (by decide +kernel) hM) h_18) (fun _ s_19 (h_20 : KB M z s_19) => ?_)
          refine pk_ite ?_ ?_
          · exact pk_some h_20
          · exact (W_X7_readLaw_126 (sub_tr (by decide +kernel) hM) h_20)
        · exact (W_X7_readLaw_126 (sub_tr (by decide +kernel) hM) h_16)
theorem W_X7_readText_19 {M : Nat} {z : mG} {s : mG} (hM : sub 0 M) (h : KB M z s) : pk (F_X7_readText_19 s) (fun τ => KB M z τ.2) := by
  unfold F_X7_readText_19
  exact pk_some h
theorem W_X7_readText_119 {M : Nat} {z : mG} {s : mG} (hM : sub 0 M) (h : KB M z s) : pk (F_X7_readText_119 s) (fun τ => KB M z τ.2) := by
  unfold F_X7_readText_119
  exact pk_some h
theorem W_X7_readText_106 {M : Nat} {z : mG} {x1 : Int32} {x2 : Int32} {y0 : Int32} {s : mG} (hM : sub 0 M) (h : KB M z s) : pk (F_X7_readText_106 x1 x2 y0 s) (se (fun τ => KB M z τ.2.2) (fun τ => KB M z τ.2)) := by
  unfold F_X7_readText_106
  refine pk_ite ?_ ?_
  · exact pk_some h
  · exact pk_some h
theorem W_X7_readText_B64 {M : Nat} {z : mG} {x1 : Int32} {x2 : Int32} {s : mG} (hM : sub 165984667866367000576 M) (h : KB M z s) : pk (F_X7_readText_B64 x1 x2 s) (se (fun τ => KB M z τ.2.2) (fun τ => KB M z τ.2)) := by
  unfold F_X7_readText_B64
  refine pk_ite ?_ ?_
  · refine pk_b1r ?_
    exact (W_X7_readText_119 (sub_tr (by decide +kernel) hM) h)
  · refine pk_ite ?_ ?_
    · refine pk_b1r ?_
      exact (W_X7_readText_119 (sub_tr (by decide +kernel) hM) h)
    · refine pk_ite ?_ ?_
      · refine pk_b2 (W_X7_readLaw (sub_tr (by decide +kernel) hM) h) (fun _ s_1 (h_2 : KB M z s_1) => ?_)
        exact (W_X7_readText_106 (sub_tr (by decide +kernel) hM) h_2)
      · refine pk_ite ?_ ?_
        · refine pk_b2 (W_X7_readSign (sub_tr (by decide +kernel) hM) h) (fun _ s_3 (h_4 : KB M z s_3) => ?_)
          exact (W_X7_readText_106 (sub_tr (by decide +kernel) hM) h_4)
        · refine pk_b2 (W_X7_readShift (sub_tr (by decide +kernel) hM) h) (fun _ s_5 (h_6 : KB M z s_5) => ?_)
          exact (W_X7_readText_106 (sub_tr (by decide +kernel) hM) h_6)
theorem W_X7_readText_L64 {M : Nat} {z : mG} {x1 : Int32} {x2 : Int32} {s : mG} (hM : sub 165984667866367000576 M) (h : KB M z s) : pk (F_X7_readText_L64 x1 x2 s) (fun τ => KB M z τ.2) := by
  unfold F_X7_readText_L64
  refine pk_whl (fun v => KB M z v.2.2) h (fun v hv => ?_)
  obtain ⟨y0, y1, y2⟩ := v
  exact W_X7_readText_B64 (sub_tr (by decide +kernel) hM) hv
theorem W_X7_readText {M : Nat} {z : mG} {a1 : Int32} {s : mG} (hM : sub 276665132308624310272 M) (h : KB M z s) : pk (F_X7_readText a1 s) (fun τ => KB M z τ.2) := by
  unfold F_X7_readText
  extract_lets +onlyGivenNames s_1
  have h_2 : KB M z s_1 := KB_mu h (hM 55 (by decide +kernel))
  clear_value s_1
  extract_lets +onlyGivenNames s_3
  have h_4 : KB M z s_3 := KB_mu h_2 (hM 55 (by decide +kernel))
  clear_value s_3
  refine pk_ite ?_ ?_
  · exact (W_X7_readText_19 (sub_tr (by decide +kernel) hM) h_4)
  · refine pk_ite ?_ ?_
    · refine pk_b1 (W_X7_splitTape (sub_tr (by decide +kernel) hM) h_4) (fun s_5 (h_6 : KB M z s_5) => ?_)
      refine pk_b1 (W_X10_clear (sub_tr (by decide +kernel) hM) (hM 56 (by decide +kernel)) h_6) (fun s_7 (h_8 : KB M z s_7) => ?_)
      refine pk_b1 (W_X10_clear (sub_tr (by decide +kernel) hM) (hM 58 (by decide +kernel)) h_8) (fun s_9 (h_10 : KB M z s_9) => ?_)
      refine pk_b1 (W_X10_clear (sub_tr (by decide +kernel) hM) (hM 60 (by decide +kernel)) h_10) (fun s_11 (h_12 : KB M z s_11) => ?_)
      refine pk_b1 (W_X10_clear (sub_tr (by decide +kernel) hM) (hM 62 (by decide +kernel)) h_12) (fun s_13 (h_14 : KB M z s_13) => ?_)
      extract_lets +onlyGivenNames s_15
      have h_16 : KB M z s_15 := KB_mu h_14 (hM 55 (by decide +kernel))
      clear_value s_15
      refine pk_b1 (W_X7_stepOn (sub_tr (by decide +kernel) hM) h_16) (fun s_17 (h_18 : KB M z s_17) => ?_)
      exact (W_X7_readText_L64 (sub_tr (by decide +kernel) hM) h_18)
    · exact (W_X7_readText_19 (sub_tr (by decide +kernel) hM) h_4)
theorem W_X9_roomAt_B51 {M : Nat} {z : mG} {x1 : Int32} {x2 : Int32} {s : mG} (hM : sub 0 M) (h : KB M z s) : pk (F_X9_roomAt_B51 x1 x2 s) (se (fun τ => KB M z τ.2.2) (fun τ => KB M z τ.2)) := by
  unfold F_X9_roomAt_B51
  refine pk_ite ?_ ?_
  · exact pk_some h
  · refine pk_b1 pk_top (fun _ _ => ?_)
    refine pk_ite ?_ ?_
    · exact pk_some h
    · exact pk_some h
theorem W_X9_roomAt_L51 {M : Nat} {z : mG} {x1 : Int32} {x2 : Int32} {s : mG} (hM : sub 0 M) (h : KB M z s) : pk (F_X9_roomAt_L51 x1 x2 s) (fun τ => KB M z τ.2) := by
  unfold F_X9_roomAt_L51
  refine pk_whl (fun v => KB M z v.2.2) h (fun v hv => ?_)
  obtain ⟨y0, y1, y2⟩ := v
  exact W_X9_roomAt_B51 (sub_tr (by decide +kernel) hM) hv
theorem W_X9_roomAt_B2 {M : Nat} {z : mG} {x1 : Int32} {x2 : Int32} {s : mG} (hM : sub 19363473467196621493108736 M) (h : KB M z s) : pk (F_X9_roomAt_B2 x1 x2 s) (se (fun τ => KB M z τ.2.2) (fun τ => KB M z τ.2)) := by
  unfold F_X9_roomAt_B2
  refine pk_ite ?_ ?_
  · refine pk_b1r ?_
    exact (W_X9_roomAt_L51 (sub_tr (by decide +kernel) hM) h)
  · refine pk_b1 pk_top (fun _ _ => ?_)
    refine pk_b2 (W_X0_sureOf (sub_tr (by decide +kernel) hM) h) (fun _ s_1 (h_2 : KB M z s_1) => ?_)
    refine pk_b1 (W_X11_put (sub_tr (by decide +kernel) hM) (hM 84 (by decide +kernel)) h_2) (fun s_3 (h_4 : KB M z s_3) => ?_)
    exact pk_some h_4
end
