noncomputable section
theorem W_X12_looksAt {M : Nat} {z : mG} {a1 : Int32} {a2 : Int32} {s : mG} (hM : sub 237684487542793012780631851008 M) (h : KB M z s) : pk (F_X12_looksAt a1 a2 s) (fun τ => KB M z τ.2) := by
  unfold F_X12_looksAt
  refine pk_b1 pk_top (fun _ _ => ?_)
  refine pk_ite ?_ ?_
  · exact pk_some h
  · refine pk_b2 (W_X12_sureOf (sub_tr (by decide +kernel) hM) h) (fun _ s_1 (h_2 : KB M z s_1) => ?_)
    refine pk_b1 pk_top (fun _ _ => ?_)
    refine pk_b1 pk_top (fun _ _ => ?_)
    exact (W_X12_looksAt_L35 (sub_tr (by decide +kernel) hM) h_2)
theorem W_X12_say_22 {M : Nat} {z : mG} {s : mG} (hM : sub 0 M) (h : KB M z s) : pk (F_X12_say_22 s) (fun τ => KB M z τ.2) := by
  unfold F_X12_say_22
  exact pk_some h
theorem W_X12_say {M : Nat} {z : mG} {a1 : Int32} {a2 : Int32} {a3 : Int32} {s : mG} (hM : sub 237684487542793012780631851008 M) (h : KB M z s) : pk (F_X12_say a1 a2 a3 s) (fun τ => KB M z τ.2) := by
  unfold F_X12_say
  refine pk_b1 pk_top (fun _ _ => ?_)
  refine pk_ite ?_ ?_
  · exact (W_X12_say_22 (sub_tr (by decide +kernel) hM) h)
  · refine pk_b1 pk_top (fun _ _ => ?_)
    refine pk_ite ?_ ?_
    · exact (W_X12_say_22 (sub_tr (by decide +kernel) hM) h)
    · refine pk_b1 pk_top (fun _ _ => ?_)
      refine pk_ite ?_ ?_
      · exact (W_X12_say_22 (sub_tr (by decide +kernel) hM) h)
      · refine pk_b2 (W_X12_sureOf (sub_tr (by decide +kernel) hM) h) (fun _ s_1 (h_2 : KB M z s_1) => ?_)
        refine pk_ite ?_ ?_
        · exact pk_some h_2
        · exact pk_some h_2
theorem W_X12_caller_59 {M : Nat} {z : mG} {s : mG} (hM : sub 0 M) (h : KB M z s) : pk (F_X12_caller_59 s) (fun τ => KB M z τ.2) := by
  unfold F_X12_caller_59
  exact pk_some h
theorem W_X12_caller {M : Nat} {z : mG} {a1 : Int32} {a2 : Int32} {a3 : Int32} {s : mG} (hM : sub 618970019642690137449562112 M) (h : KB M z s) : pk (F_X12_caller a1 a2 a3 s) (fun τ => KB M z τ.2) := by
  unfold F_X12_caller
  refine pk_ite ?_ ?_
  · extract_lets +onlyGivenNames s_1
    have h_2 : KB M z s_1 := KB_mu h (hM 89 (by decide +kernel))
    clear_value s_1
    exact pk_some h_2
  · refine pk_b1 pk_top (fun _ _ => ?_)
    refine pk_ite ?_ ?_
    · exact (W_X12_caller_59 (sub_tr (by decide +kernel) hM) h)
    · refine pk_b1 pk_top (fun _ _ => ?_)
      refine pk_ite ?_ ?_
      · exact (W_X12_caller_59 (sub_tr (by decide +kernel) hM) h)
      · refine pk_b1 pk_top (fun _ _ => ?_)
        refine pk_ite ?_ ?_
        · exact (W_X12_caller_59 (sub_tr (by decide +kernel) hM) h)
        · refine pk_ite ?_ ?_
          · exact (W_X12_caller_59 (sub_tr (by decide +kernel) hM) h)
          · extract_lets +onlyGivenNames v_3
            clear_value v_3
            refine pk_nn ?_
            extract_lets +onlyGivenNames s_4
            have h_5 : KB M z s_4 := KB_mu h (hM 89 (by decide +kernel))
            clear_value s_4
            refine pk_nn ?_
            extract_lets +onlyGivenNames s_6
            have h_7 : KB M z s_6 := KB_mu h_5 (hM 89 (by decide +kernel))
            clear_value s_6
            refine pk_nn ?_
            extract_lets +onlyGivenNames s_8
            have h_9 : KB M z s_8 := KB_mu h_7 (hM 89 (by decide +kernel))
            clear_value s_8
            extract_lets +onlyGivenNames s_10
            have h_11 : KB M z s_10 := KB_mu h_9 (hM 89 (by decide +kernel))
            clear_value s_10
            exact pk_some h_11
theorem W_X12_said_149 {M : Nat} {z : mG} {x1 : Int32} {x2 : Int32} {x4 : Int32} {y0 : Int32} {y1 : Int64} {s : mG} (hM : sub 0 M) (h : KB M z s) : pk (F_X12_said_149 x1 x2 x4 y0 y1 s) (se (fun τ => KB M z τ.2.2.2.2) (fun τ => KB M z τ.2)) := by
  unfold F_X12_said_149
  extract_lets +onlyGivenNames v_1
  clear_value v_1
  exact pk_some h
theorem W_X12_said_108 {M : Nat} {z : mG} {x1 : Int32} {x3 : Int32} {x4 : Int32} {x5 : Int32} {x6 : Int32} {x7 : Int64} {y0 : Int32} {y1 : Int32} {s : mG} (hM : sub 0 M) (h : KB M z s) : pk (F_X12_said_108 x1 x3 x4 x5 x6 x7 y0 y1 s) (se (fun τ => KB M z τ.2.2.2.2) (fun τ => KB M z τ.2)) := by
  unfold F_X12_said_108
  refine pk_ite ?_ ?_
  · refine pk_nn ?_
    exact (W_X12_said_149 (sub_tr (by decide +kernel) hM) h)
  · refine pk_nn ?_
    exact (W_X12_said_149 (sub_tr (by decide +kernel) hM) h)
theorem W_X12_said_79 {M : Nat} {z : mG} {x1 : Int32} {x2 : Int32} {x3 : Int32} {x4 : Int32} {x5 : Int32} {y0 : Int32} {s : mG} (hM : sub 237684487542793012780631851008 M) (h : KB M z s) : pk (F_X12_said_79 x1 x2 x3 x4 x5 y0 s) (se (fun τ => KB M z τ.2.2.2.2) (fun τ => KB M z τ.2)) := by
  unfold F_X12_said_79
  refine pk_nn ?_
  refine pk_b2 (W_X12_sureOf (sub_tr (by decide +kernel) hM) h) (fun _ s_1 (h_2 : KB M z s_1) => ?_)
  refine pk_ite ?_ ?_
  · exact (W_X12_said_108 (sub_tr (by decide +kernel) hM) h_2)
  · exact (W_X12_said_108 (sub_tr (by decide +kernel) hM) h_2)
theorem W_X12_said_B18 {M : Nat} {z : mG} {x1 : Int32} {x2 : Int32} {x3 : Int32} {x4 : Int32} {s : mG} (hM : sub 237684487542793012780631851008 M) (h : KB M z s) : pk (F_X12_said_B18 x1 x2 x3 x4 s) (se (fun τ => KB M z τ.2.2.2.2) (fun τ => KB M z τ.2)) := by
  unfold F_X12_said_B18
  refine pk_ite ?_ ?_
  · refine pk_ite ?_ ?_
    · exact pk_some h
    · exact pk_some h
  · extract_lets +onlyGivenNames v_1
    clear_value v_1
    refine pk_nn ?_
    refine pk_nn ?_
    refine pk_nn ?_
    refine pk_b2 (W_X12_say (sub_tr (by decide +kernel) hM) h) (fun _ s_2 (h_3 : KB M z s_2) => ?_)
    refine pk_ite ?_ ?_
    · exact (W_X12_said_79 (sub_tr (by decide +kernel) hM) h_3)
    · exact (W_X12_said_79 (sub_tr (by decide +kernel) hM) h_3)
theorem W_X12_said_L18 {M : Nat} {z : mG} {x1 : Int32} {x2 : Int32} {x3 : Int32} {x4 : Int32} {s : mG} (hM : sub 237684487542793012780631851008 M) (h : KB M z s) : pk (F_X12_said_L18 x1 x2 x3 x4 s) (fun τ => KB M z τ.2) := by
  unfold F_X12_said_L18
  refine pk_whl (fun v => KB M z v.2.2.2.2) h (fun v hv => ?_)
  obtain ⟨y0, y1, y2, y3, y4⟩ := v
  exact W_X12_said_B18 (sub_tr (by decide +kernel) hM) hv
theorem W_X12_said {M : Nat} {z : mG} {a1 : Int32} {s : mG} (hM : sub 237684487542793012780631851008 M) (h : KB M z s) : pk (F_X12_said a1 s) (fun τ => KB M z τ.2) := by
  unfold F_X12_said
  refine pk_b1 pk_top (fun _ _ => ?_)
  refine pk_ite ?_ ?_
  · exact pk_some h
  · exact (W_X12_said_L18 (sub_tr (by decide +kernel) hM) h)
theorem W_X12_pair_20 {M : Nat} {z : mG} {s : mG} (hM : sub 0 M) (h : KB M z s) : pk (F_X12_pair_20 s) (fun τ => KB M z τ.2) := by
  unfold F_X12_pair_20
  exact pk_some h
theorem W_X12_pair_105 {M : Nat} {z : mG} {x1 : Int32} {x2 : Int64} {x4 : Int32} {x5 : Int32} {x6 : Int32} {x7 : Int32} {s : mG} (hM : sub 0 M) (h : KB M z s) : pk (F_X12_pair_105 x1 x2 x4 x5 x6 x7 s) (se (fun τ => KB M z τ.2.2.2.2.2.2) (se (fun τ => KB M z τ.2.2.2.2.2) (fun τ => KB M z τ.2))) := by
  unfold F_X12_pair_105
  exact pk_some h
theorem W_X12_pair_B53 {M : Nat} {z : mG} {x1 : Int32} {x2 : Int64} {x4 : Int32} {x5 : Int32} {x6 : Int32} {x7 : Int32} {s : mG} (hM : sub 237684487542793012780631851008 M) (h : KB M z s) : pk (F_X12_pair_B53 x1 x2 x4 x5 x6 x7 s) (se (fun τ => KB M z τ.2.2.2.2.2.2) (se (fun τ => KB M z τ.2.2.2.2.2) (fun τ => KB M z τ.2))) := by
  unfold F_X12_pair_B53
  refine pk_ite ?_ ?_
  · exact pk_some h
  · refine pk_b2 (W_X12_sureOf (sub_tr (by decide +kernel) hM) h) (fun _ s_1 (h_2 : KB M z s_1) => ?_)
    refine pk_b2 (W_X12_sureOf (sub_tr (by decide +kernel) hM) h_2) (fun _ s_3 (h_4 : KB M z s_3) => ?_)
    extract_lets +onlyGivenNames v_5
    clear_value v_5
    refine pk_ite ?_ ?_
    · exact (W_X12_pair_105 (sub_tr (by decide +kernel) hM) h_4)
    · exact (W_X12_pair_105 (sub_tr (by decide +kernel) hM) h_4)
theorem W_X12_pair_L53 {M : Nat} {z : mG} {x1 : Int32} {x2 : Int64} {x4 : Int32} {x5 : Int32} {x6 : Int32} {x7 : Int32} {s : mG} (hM : sub 237684487542793012780631851008 M) (h : KB M z s) : pk (F_X12_pair_L53 x1 x2 x4 x5 x6 x7 s) (se (fun τ => KB M z τ.2.2.2.2.2) (fun τ => KB M z τ.2)) := by
  unfold F_X12_pair_L53
  refine pk_whl (fun v => KB M z v.2.2.2.2.2.2) h (fun v hv => ?_)
  obtain ⟨y0, y1, y2, y3, y4, y5, y6⟩ := v
  exact W_X12_pair_B53 (sub_tr (by decide +kernel) hM) hv
theorem W_X12_pair_B35 {M : Nat} {z : mG} {x1 : Int32} {x2 : Int64} {x4 : Int32} {x5 : Int32} {x6 : Int32} {s : mG} (hM : sub 237684487542793012780631851008 M) (h : KB M z s) : pk (F_X12_pair_B35 x1 x2 x4 x5 x6 s) (se (fun τ => KB M z τ.2.2.2.2.2) (fun τ => KB M z τ.2)) := by
  unfold F_X12_pair_B35
  refine pk_ite ?_ ?_
  · refine pk_ite ?_ ?_
    · exact pk_some h
    · refine pk_ite ?_ ?_
      · exact pk_some h
      · exact pk_some h
  · exact (W_X12_pair_L53 (sub_tr (by decide +kernel) hM) h)
theorem W_X12_pair_L35 {M : Nat} {z : mG} {x1 : Int32} {x2 : Int64} {x4 : Int32} {x5 : Int32} {x6 : Int32} {s : mG} (hM : sub 237684487542793012780631851008 M) (h : KB M z s) : pk (F_X12_pair_L35 x1 x2 x4 x5 x6 s) (fun τ => KB M z τ.2) := by
  unfold F_X12_pair_L35
  refine pk_whl (fun v => KB M z v.2.2.2.2.2) h (fun v hv => ?_)
  obtain ⟨y0, y1, y2, y3, y4, y5⟩ := v
  exact W_X12_pair_B35 (sub_tr (by decide +kernel) hM) hv
theorem W_X12_pair {M : Nat} {z : mG} {a1 : Int32} {s : mG} (hM : sub 237684487542793012780631851008 M) (h : KB M z s) : pk (F_X12_pair a1 s) (fun τ => KB M z τ.2) := by
  unfold F_X12_pair
  refine pk_b1 pk_top (fun _ _ => ?_)
  refine pk_ite ?_ ?_
  · exact (W_X12_pair_20 (sub_tr (by decide +kernel) hM) h)
  · refine pk_ite ?_ ?_
    · exact (W_X12_pair_L35 (sub_tr (by decide +kernel) hM) h)
    · exact (W_X12_pair_20 (sub_tr (by decide +kernel) hM) h)
theorem W_X12_laysChances_116 {M : Nat} {z : mG} {x1 : Int32} {x2 : Int64} {x4 : Int32} {y1 : Int32} {y2 : Int64} {y3 : Int64} {s : mG} (hM : sub 0 M) (h : KB M z s) : pk (F_X12_laysChances_116 x1 x2 x4 y1 y2 y3 s) (se (fun τ => KB M z τ.2.2.2) (se (fun τ => KB M z τ.2) (fun τ => KB M z τ))) := by
  unfold F_X12_laysChances_116
  refine pk_nn ?_
  extract_lets +onlyGivenNames s_1
  have h_2 : KB M z s_1 := h
  clear_value s_1
  exact pk_some h_2
theorem W_X12_laysChances_B64 {M : Nat} {z : mG} {x1 : Int32} {x2 : Int64} {x4 : Int32} {s : mG} (hM : sub 0 M) (h : KB M z s) : pk (F_X12_laysChances_B64 x1 x2 x4 s) (se (fun τ => KB M z τ.2.2.2) (se (fun τ => KB M z τ.2) (fun τ => KB M z τ))) := by
  unfold F_X12_laysChances_B64
  refine pk_ite ?_ ?_
  · exact pk_some h
  · refine pk_nn ?_
    refine pk_ite ?_ ?_
    · exact (W_X12_laysChances_116 (sub_tr (by decide +kernel) hM) h)
    · refine pk_nn ?_
      exact (W_X12_laysChances_116 (sub_tr (by decide +kernel) hM) h)
theorem W_X12_laysChances_L64 {M : Nat} {z : mG} {x1 : Int32} {x2 : Int64} {x4 : Int32} {s : mG} (hM : sub 0 M) (h : KB M z s) : pk (F_X12_laysChances_L64 x1 x2 x4 s) (se (fun τ => KB M z τ.2) (fun τ => KB M z τ)) := by
  unfold F_X12_laysChances_L64
  refine pk_whl (fun v => KB M z v.2.2.2) h (fun v hv => ?_)
  obtain ⟨y0, y1, y2, y3⟩ := v
  exact W_X12_laysChances_B64 (sub_tr (by decide +kernel) hM) hv
theorem W_X12_laysChances_B38 {M : Nat} {z : mG} {x1 : Int32} {s : mG} (hM : sub 237684487542793012780631851008 M) (h : KB M z s) : pk (F_X12_laysChances_B38 x1 s) (se (fun τ => KB M z τ.2) (fun τ => KB M z τ)) := by
  unfold F_X12_laysChances_B38
  refine pk_ite ?_ ?_
  · exact pk_some h
  · refine pk_b2 (W_X12_sureOf (sub_tr (by decide +kernel) hM) h) (fun _ s_1 (h_2 : KB M z s_1) => ?_)
    exact (W_X12_laysChances_L64 (sub_tr (by decide +kernel) hM) h_2)
theorem W_X12_laysChances_L38 {M : Nat} {z : mG} {x1 : Int32} {s : mG} (hM : sub 237684487542793012780631851008 M) (h : KB M z s) : pk (F_X12_laysChances_L38 x1 s) (fun τ => KB M z τ) := by
  unfold F_X12_laysChances_L38
  refine pk_whl (fun v => KB M z v.2) h (fun v hv => ?_)
  obtain ⟨y0, y1⟩ := v
  exact W_X12_laysChances_B38 (sub_tr (by decide +kernel) hM) hv
theorem W_X12_laysChances_29 {M : Nat} {z : mG} {x1 : Int32} {y1 : Int32} {y2 : Int64} {s : mG} (hM : sub 0 M) (h : KB M z s) : pk (F_X12_laysChances_29 x1 y1 y2 s) (se (fun τ => KB M z τ.2) (fun τ => KB M z τ)) := by
  unfold F_X12_laysChances_29
  refine pk_nn ?_
  extract_lets +onlyGivenNames s_1
  have h_2 : KB M z s_1 := h
  clear_value s_1
  exact pk_some h_2
theorem W_X12_laysChances_B2 {M : Nat} {z : mG} {x1 : Int32} {s : mG} (hM : sub 237684487542793012780631851008 M) (h : KB M z s) : pk (F_X12_laysChances_B2 x1 s) (se (fun τ => KB M z τ.2) (fun τ => KB M z τ)) := by
  unfold F_X12_laysChances_B2
  refine pk_ite ?_ ?_
  · refine pk_b1r ?_
    exact (W_X12_laysChances_L38 (sub_tr (by decide +kernel) hM) h)
  · refine pk_ite ?_ ?_
    · exact (W_X12_laysChances_29 (sub_tr (by decide +kernel) hM) h)
    · exact (W_X12_laysChances_29 (sub_tr (by decide +kernel) hM) h)
theorem W_X12_laysChances_L2 {M : Nat} {z : mG} {x1 : Int32} {s : mG} (hM : sub 237684487542793012780631851008 M) (h : KB M z s) : pk (F_X12_laysChances_L2 x1 s) (fun τ => KB M z τ) := by
  unfold F_X12_laysChances_L2
  refine pk_whl (fun v => KB M z v.2) h (fun v hv => ?_)
  obtain ⟨y0, y1⟩ := v
  exact W_X12_laysChances_B2 (sub_tr (by decide +kernel) hM) hv
theorem W_X12_laysChances {M : Nat} {z : mG} {s : mG} (hM : sub 237684487542793012780631851008 M) (h : KB M z s) : pk (F_X12_laysChances s) (fun τ => KB M z τ) := by
  unfold F_X12_laysChances
  exact (W_X12_laysChances_L2 (sub_tr (by decide +kernel) hM) h)
theorem W_X12_many_98 {M : Nat} {z : mG} {x1 : Int32} {x4 : Int32} {x5 : Int32} {s : mG} (hM : sub 0 M) (h : KB M z s) : pk (F_X12_many_98 x1 x4 x5 s) (se (fun τ => KB M z τ.2.2.2) (fun τ => KB M z τ.2)) := by
  unfold F_X12_many_98
  exact pk_some h
theorem W_X12_many_B64 {M : Nat} {z : mG} {x1 : Int32} {x4 : Int32} {x5 : Int32} {s : mG} (hM : sub 0 M) (h : KB M z s) : pk (F_X12_many_B64 x1 x4 x5 s) (se (fun τ => KB M z τ.2.2.2) (fun τ => KB M z τ.2)) := by
  unfold F_X12_many_B64
  refine pk_ite ?_ ?_
  · refine pk_ite ?_ ?_
    · exact pk_some h
    · refine pk_nn ?_
      extract_lets +onlyGivenNames v_1
      clear_value v_1
      exact pk_some h
  · refine pk_nn ?_
    refine pk_nn ?_
    refine pk_ite ?_ ?_
    · exact (W_X12_many_98 (sub_tr (by decide +kernel) hM) h)
    · exact (W_X12_many_98 (sub_tr (by decide +kernel) hM) h)
theorem W_X12_many_L64 {M : Nat} {z : mG} {x1 : Int32} {x4 : Int32} {x5 : Int32} {s : mG} (hM : sub 0 M) (h : KB M z s) : pk (F_X12_many_L64 x1 x4 x5 s) (fun τ => KB M z τ.2) := by
  unfold F_X12_many_L64
  refine pk_whl (fun v => KB M z v.2.2.2) h (fun v hv => ?_)
  obtain ⟨y0, y1, y2, y3⟩ := v
  exact W_X12_many_B64 (sub_tr (by decide +kernel) hM) hv
theorem W_X12_many_B16 {M : Nat} {z : mG} {x1 : Int32} {x2 : Int64} {x4 : Int32} {s : mG} (hM : sub 237684487542793012780631851008 M) (h : KB M z s) : pk (F_X12_many_B16 x1 x2 x4 s) (se (fun τ => KB M z τ.2.2.2) (fun τ => KB M z τ.2)) := by
  unfold F_X12_many_B16
  refine pk_ite ?_ ?_
  · refine pk_ite ?_ ?_
    · extract_lets +onlyGivenNames v_1
      clear_value v_1
      exact pk_some h
    · refine pk_b1 (W_X12_laysChances (sub_tr (by decide +kernel) hM) h) (fun s_2 (h_3 : KB M z s_2) => ?_)
      refine pk_b1r ?_
      exact (W_X12_many_L64 (sub_tr (by decide +kernel) hM) h_3)
  · refine pk_b2 (W_X12_sureOf (sub_tr (by decide +kernel) hM) h) (fun _ s_4 (h_5 : KB M z s_4) => ?_)
    exact pk_some h_5
theorem W_X12_many_L16 {M : Nat} {z : mG} {x1 : Int32} {x2 : Int64} {x4 : Int32} {s : mG} (hM : sub 237684487542793012780631851008 M) (h : KB M z s) : pk (F_X12_many_L16 x1 x2 x4 s) (fun τ => KB M z τ.2) := by
  unfold F_X12_many_L16
  refine pk_whl (fun v => KB M z v.2.2.2) h (fun v hv => ?_)
  obtain ⟨y0, y1, y2, y3⟩ := v
  exact W_X12_many_B16 (sub_tr (by decide +kernel) hM) hv
theorem W_X12_many {M : Nat} {z : mG} {a1 : Int32} {s : mG} (hM : sub 237684487542793012780631851008 M) (h : KB M z s) : pk (F_X12_many a1 s) (fun τ => KB M z τ.2) := by
  unfold F_X12_many
  refine pk_b1 pk_top (fun _ _ => ?_)
  refine pk_ite ?_ ?_
  · exact pk_some h
  · exact (W_X12_many_L16 (sub_tr (by decide +kernel) hM) h)
theorem W_X12_tagCostOf_B6 {M : Nat} {z : mG} {x1 : Int32} {x2 : Int32} {x3 : Int32} {x4 : Int32} {x5 : Int32} {s : mG} (hM : sub 237684487542793012780631851008 M) (h : KB M z s) : pk (F_X12_tagCostOf_B6 x1 x2 x3 x4 x5 s) (se (fun τ => KB M z τ.2.2.2.2.2) (fun τ => KB M z τ.2)) := by
  unfold F_X12_tagCostOf_B6
  refine pk_ite ?_ ?_
  · extract_lets +onlyGivenNames v_1
    clear_value v_1
    exact pk_some h
  · refine pk_nn ?_
    refine pk_b2 (W_X12_saysIn (sub_tr (by decide +kernel) hM) h) (fun _ s_2 (h_3 : KB M z s_2) => ?_)
    exact pk_some h_3
theorem W_X12_tagCostOf_L6 {M : Nat} {z : mG} {x1 : Int32} {x2 : Int32} {x3 : Int32} {x4 : Int32} {x5 : Int32} {s : mG} (hM : sub 237684487542793012780631851008 M) (h : KB M z s) : pk (F_X12_tagCostOf_L6 x1 x2 x3 x4 x5 s) (fun τ => KB M z τ.2) := by
  unfold F_X12_tagCostOf_L6
  refine pk_whl (fun v => KB M z v.2.2.2.2.2) h (fun v hv => ?_)
  obtain ⟨y0, y1, y2, y3, y4, y5⟩ := v
  exact W_X12_tagCostOf_B6 (sub_tr (by decide +kernel) hM) hv
theorem W_X12_tagCostOf {M : Nat} {z : mG} {a1 : Int32} {a2 : Int32} {a3 : Int32} {s : mG} (hM : sub 237684487542793012780631851008 M) (h : KB M z s) : pk (F_X12_tagCostOf a1 a2 a3 s) (fun τ => KB M z τ.2) := by
  unfold F_X12_tagCostOf
  exact (W_X12_tagCostOf_L6 (sub_tr (by decide +kernel) hM) h)
theorem W_X12_tag_22 {M : Nat} {z : mG} {s : mG} (hM : sub 0 M) (h : KB M z s) : pk (F_X12_tag_22 s) (fun τ => KB M z τ.2) := by
  unfold F_X12_tag_22
  exact pk_some h
theorem W_X12_tag_57 {M : Nat} {z : mG} {x1 : Int32} {x2 : Int32} {x3 : Int32} {x4 : Int32} {s : mG} (hM : sub 0 M) (h : KB M z s) : pk (F_X12_tag_57 x1 x2 x3 x4 s) (se (fun τ => KB M z τ.2.2.2.2) (fun τ => KB M z τ.2)) := by
  unfold F_X12_tag_57
  exact pk_some h
theorem W_X12_tag_B29 {M : Nat} {z : mG} {x1 : Int32} {x2 : Int32} {x3 : Int32} {x4 : Int32} {s : mG} (hM : sub 237684487542793012780631851008 M) (h : KB M z s) : pk (F_X12_tag_B29 x1 x2 x3 x4 s) (se (fun τ => KB M z τ.2.2.2.2) (fun τ => KB M z τ.2)) := by
  unfold F_X12_tag_B29
  refine pk_ite ?_ ?_
  · exact pk_some h
  · refine pk_b2 (W_X12_tagCostOf (sub_tr (by decide +kernel) hM) h) (fun _ s_1 (h_2 : KB M z s_1) => ?_)
    refine pk_b2 (W_X12_tagCostOf (sub_tr (by decide +kernel) hM) h_2) (fun _ s_3 (h_4 : KB M z s_3) => ?_)
    refine pk_ite ?_ ?_
    · exact (W_X12_tag_57 (sub_tr (by decide +kernel) hM) h_4)
    · exact (W_X12_tag_57 (sub_tr (by decide +kernel) hM) h_4)
theorem W_X12_tag_L29 {M : Nat} {z : mG} {x1 : Int32} {x2 : Int32} {x3 : Int32} {x4 : Int32} {s : mG} (hM : sub 237684487542793012780631851008 M) (h : KB M z s) : pk (F_X12_tag_L29 x1 x2 x3 x4 s) (fun τ => KB M z τ.2) := by
  unfold F_X12_tag_L29
  refine pk_whl (fun v => KB M z v.2.2.2.2) h (fun v hv => ?_)
  obtain ⟨y0, y1, y2, y3, y4⟩ := v
  exact W_X12_tag_B29 (sub_tr (by decide +kernel) hM) hv
theorem W_X12_tag {M : Nat} {z : mG} {a1 : Int32} {a2 : Int32} {s : mG} (hM : sub 237684487542793012780631851008 M) (h : KB M z s) : pk (F_X12_tag a1 a2 s) (fun τ => KB M z τ.2) := by
  unfold F_X12_tag
  refine pk_b1 pk_top (fun _ _ => ?_)
  refine pk_ite ?_ ?_
  · exact (W_X12_tag_22 (sub_tr (by decide +kernel) hM) h)
  · refine pk_b1 pk_top (fun _ _ => ?_)
    refine pk_ite ?_ ?_
    · exact (W_X12_tag_22 (sub_tr (by decide +kernel) hM) h)
    · exact (W_X12_tag_L29 (sub_tr (by decide +kernel) hM) h)
theorem W_X12_tagCost_42 {M : Nat} {z : mG} {s : mG} (hM : sub 0 M) (h : KB M z s) : pk (F_X12_tagCost_42 s) (fun τ => KB M z τ.2) := by
  unfold F_X12_tagCost_42
  exact pk_some h
theorem W_X12_tagCost {M : Nat} {z : mG} {a1 : Int32} {a2 : Int32} {a3 : Int32} {s : mG} (hM : sub 237684487542793012780631851008 M) (h : KB M z s) : pk (F_X12_tagCost a1 a2 a3 s) (fun τ => KB M z τ.2) := by
  unfold F_X12_tagCost
  refine pk_b1 pk_top (fun _ _ => ?_)
  refine pk_ite ?_ ?_
  · exact (W_X12_tagCost_42 (sub_tr (by decide +kernel) hM) h)
  · refine pk_b1 pk_top (fun _ _ => ?_)
    refine pk_ite ?_ ?_
    · exact (W_X12_tagCost_42 (sub_tr (by decide +kernel) hM) h)
    · refine pk_b1 pk_top (fun _ _ => ?_)
      refine pk_ite ?_ ?_
      · exact (W_X12_tagCost_42 (sub_tr (by decide +kernel) hM) h)
      · refine pk_b2 (W_X12_tagCostOf (sub_tr (by decide +kernel) hM) h) (fun _ s_1 (h_2 : KB M z s_1) => ?_)
        exact pk_some h_2
theorem W_X12_span_20 {M : Nat} {z : mG} {s : mG} (hM : sub 0 M) (h : KB M z s) : pk (F_X12_span_20 s) (fun τ => KB M z τ.2) := by
  unfold F_X12_span_20
  exact pk_some h
theorem W_X12_span_103 {M : Nat} {z : mG} {x4 : Int32} {s : mG} (hM : sub 0 M) (h : KB M z s) : pk (F_X12_span_103 x4 s) (fun τ => KB M z τ.2) := by
  unfold F_X12_span_103
  exact pk_some h
theorem W_X12_span_87 {M : Nat} {z : mG} {x1 : Int32} {x2 : Int32} {x3 : Int32} {x4 : Int32} {x5 : Int32} {s : mG} (hM : sub 0 M) (h : KB M z s) : pk (F_X12_span_87 x1 x2 x3 x4 x5 s) (se (fun τ => KB M z τ.2.2.2.2.2) (fun τ => KB M z τ.2)) := by
  unfold F_X12_span_87
  exact pk_some h
theorem W_X12_span_80 {M : Nat} {z : mG} {x1 : Int32} {x2 : Int32} {x5 : Int32} {x6 : Int32} {s : mG} (hM : sub 0 M) (h : KB M z s) : pk (F_X12_span_80 x1 x2 x5 x6 s) (se (fun τ => KB M z τ.2.2.2.2.2) (fun τ => KB M z τ.2)) := by
  unfold F_X12_span_80
  exact (W_X12_span_87 (sub_tr (by decide +kernel) hM) h)
theorem W_X12_span_B34 {M : Nat} {z : mG} {x1 : Int32} {x2 : Int32} {x3 : Int32} {x4 : Int32} {x5 : Int32} {s : mG} (hM : sub 0 M) (h : KB M z s) : pk (F_X12_span_B34 x1 x2 x3 x4 x5 s) (se (fun τ => KB M z τ.2.2.2.2.2) (fun τ => KB M z τ.2)) := by
  unfold F_X12_span_B34
  refine pk_ite ?_ ?_
  · refine pk_ite ?_ ?_
    · refine pk_b1r ?_
      exact (W_X12_span_103 (sub_tr (by decide +kernel) hM) h)
    · refine pk_ite ?_ ?_
      · refine pk_b1r ?_
        exact (W_X12_span_103 (sub_tr (by decide +kernel) hM) h)
      · exact pk_some h
  · refine pk_b1 pk_top (fun _ _ => ?_)
    refine pk_ite ?_ ?_
    · exact (W_X12_span_87 (sub_tr (by decide +kernel) hM) h)
    · refine pk_ite ?_ ?_
      · exact (W_X12_span_80 (sub_tr (by decide +kernel) hM) h)
      · refine pk_ite ?_ ?_
        · exact (W_X12_span_80 (sub_tr (by decide +kernel) hM) h)
        · exact (W_X12_span_87 (sub_tr (by decide +kernel) hM) h)
theorem W_X12_span_L34 {M : Nat} {z : mG} {x1 : Int32} {x2 : Int32} {x3 : Int32} {x4 : Int32} {x5 : Int32} {s : mG} (hM : sub 0 M) (h : KB M z s) : pk (F_X12_span_L34 x1 x2 x3 x4 x5 s) (fun τ => KB M z τ.2) := by
  unfold F_X12_span_L34
  refine pk_whl (fun v => KB M z v.2.2.2.2.2) h (fun v hv => ?_)
  obtain ⟨y0, y1, y2, y3, y4, y5⟩ := v
  exact W_X12_span_B34 (sub_tr (by decide +kernel) hM) hv
theorem W_X12_span {M : Nat} {z : mG} {a1 : Int32} {a2 : Int32} {s : mG} (hM : sub 237684487542793012780631851008 M) (h : KB M z s) : pk (F_X12_span a1 a2 s) (fun τ => KB M z τ.2) := by
  unfold F_X12_span
  refine pk_b1 pk_top (fun _ _ => ?_)
  refine pk_ite ?_ ?_
  · exact (W_X12_span_20 (sub_tr (by decide +kernel) hM) h)
  · refine pk_b1 pk_top (fun _ _ => ?_)
    refine pk_ite ?_ ?_
    · exact (W_X12_span_20 (sub_tr (by decide +kernel) hM) h)
    · refine pk_b1 (W_X12_laysChances (sub_tr (by decide +kernel) hM) h) (fun s_1 (h_2 : KB M z s_1) => ?_)
      exact (W_X12_span_L34 (sub_tr (by decide +kernel) hM) h_2)
theorem W_X12_laysOthers_115 {M : Nat} {z : mG} {x1 : Int32} {x2 : Int32} {s : mG} (hM : sub 0 M) (h : KB M z s) : pk (F_X12_laysOthers_115 x1 x2 s) (se (fun τ => KB M z τ.2.2) (fun τ => KB M z τ)) := by
  unfold F_X12_laysOthers_115
  exact pk_some h
theorem W_X12_laysOthers_B63 {M : Nat} {z : mG} {x1 : Int32} {x2 : Int32} {x3 : Int64} {x5 : Int32} {s : mG} (hM : sub 0 M) (h : KB M z s) : pk (F_X12_laysOthers_B63 x1 x2 x3 x5 s) (se (fun τ => KB M z τ.2.2.2.2) (se (fun τ => KB M z τ.2.2) (fun τ => KB M z τ))) := by
  unfold F_X12_laysOthers_B63
  refine pk_ite ?_ ?_
  · refine pk_b1r ?_
    exact (W_X12_laysOthers_115 (sub_tr (by decide +kernel) hM) h)
  · refine pk_nn ?_
    refine pk_nn ?_
    refine pk_nn ?_
    extract_lets +onlyGivenNames s_1
    have h_2 : KB M z s_1 := h
    clear_value s_1
    exact pk_some h_2
theorem W_X12_laysOthers_L63 {M : Nat} {z : mG} {x1 : Int32} {x2 : Int32} {x3 : Int64} {x5 : Int32} {s : mG} (hM : sub 0 M) (h : KB M z s) : pk (F_X12_laysOthers_L63 x1 x2 x3 x5 s) (se (fun τ => KB M z τ.2.2) (fun τ => KB M z τ)) := by
  unfold F_X12_laysOthers_L63
  refine pk_whl (fun v => KB M z v.2.2.2.2) h (fun v hv => ?_)
  obtain ⟨y0, y1, y2, y3, y4⟩ := v
  exact W_X12_laysOthers_B63 (sub_tr (by decide +kernel) hM) hv
theorem W_X12_laysOthers_B34 {M : Nat} {z : mG} {x1 : Int32} {x2 : Int32} {s : mG} (hM : sub 237684487542793012780631851008 M) (h : KB M z s) : pk (F_X12_laysOthers_B34 x1 x2 s) (se (fun τ => KB M z τ.2.2) (fun τ => KB M z τ)) := by
  unfold F_X12_laysOthers_B34
  refine pk_ite ?_ ?_
  · exact pk_some h
  · refine pk_ite ?_ ?_
    · exact (W_X12_laysOthers_115 (sub_tr (by decide +kernel) hM) h)
    · refine pk_b2 (W_X12_sureOf (sub_tr (by decide +kernel) hM) h) (fun _ s_1 (h_2 : KB M z s_1) => ?_)
      exact (W_X12_laysOthers_L63 (sub_tr (by decide +kernel) hM) h_2)
theorem W_X12_laysOthers_L34 {M : Nat} {z : mG} {x1 : Int32} {x2 : Int32} {s : mG} (hM : sub 237684487542793012780631851008 M) (h : KB M z s) : pk (F_X12_laysOthers_L34 x1 x2 s) (fun τ => KB M z τ) := by
  unfold F_X12_laysOthers_L34
  refine pk_whl (fun v => KB M z v.2.2) h (fun v hv => ?_)
  obtain ⟨y0, y1, y2⟩ := v
  exact W_X12_laysOthers_B34 (sub_tr (by decide +kernel) hM) hv
theorem W_X12_laysOthers_25 {M : Nat} {z : mG} {x1 : Int32} {x2 : Int32} {y1 : Int32} {y2 : Int64} {s : mG} (hM : sub 0 M) (h : KB M z s) : pk (F_X12_laysOthers_25 x1 x2 y1 y2 s) (se (fun τ => KB M z τ.2.2) (fun τ => KB M z τ)) := by
  unfold F_X12_laysOthers_25
  refine pk_nn ?_
  extract_lets +onlyGivenNames s_1
  have h_2 : KB M z s_1 := h
  clear_value s_1
  exact pk_some h_2
theorem W_X12_laysOthers_B2 {M : Nat} {z : mG} {x1 : Int32} {x2 : Int32} {s : mG} (hM : sub 237684487542793012780631851008 M) (h : KB M z s) : pk (F_X12_laysOthers_B2 x1 x2 s) (se (fun τ => KB M z τ.2.2) (fun τ => KB M z τ)) := by
  unfold F_X12_laysOthers_B2
  refine pk_ite ?_ ?_
  · refine pk_b1r ?_
    exact (W_X12_laysOthers_L34 (sub_tr (by decide +kernel) hM) h)
  · refine pk_ite ?_ ?_
    · exact (W_X12_laysOthers_25 (sub_tr (by decide +kernel) hM) h)
    · exact (W_X12_laysOthers_25 (sub_tr (by decide +kernel) hM) h)
theorem W_X12_laysOthers_L2 {M : Nat} {z : mG} {x1 : Int32} {x2 : Int32} {s : mG} (hM : sub 237684487542793012780631851008 M) (h : KB M z s) : pk (F_X12_laysOthers_L2 x1 x2 s) (fun τ => KB M z τ) := by
  unfold F_X12_laysOthers_L2
  refine pk_whl (fun v => KB M z v.2.2) h (fun v hv => ?_)
  obtain ⟨y0, y1, y2⟩ := v
  exact W_X12_laysOthers_B2 (sub_tr (by decide +kernel) hM) hv
theorem W_X12_laysOthers {M : Nat} {z : mG} {a1 : Int32} {s : mG} (hM : sub 237684487542793012780631851008 M) (h : KB M z s) : pk (F_X12_laysOthers a1 s) (fun τ => KB M z τ) := by
  unfold F_X12_laysOthers
  exact (W_X12_laysOthers_L2 (sub_tr (by decide +kernel) hM) h)
theorem W_X12_counted_18 {M : Nat} {z : mG} {s : mG} (hM : sub 0 M) (h : KB M z s) : pk (F_X12_counted_18 s) (fun τ => KB M z τ.2) := by
  unfold F_X12_counted_18
  exact pk_some h
theorem W_X12_counted {M : Nat} {z : mG} {a1 : Int32} {a2 : Int32} {s : mG} (hM : sub 237684487542793012780631851008 M) (h : KB M z s) : pk (F_X12_counted a1 a2 s) (fun τ => KB M z τ.2) := by
  unfold F_X12_counted
  refine pk_b1 pk_top (fun _ _ => ?_)
  refine pk_ite ?_ ?_
  · exact (W_X12_counted_18 (sub_tr (by decide +kernel) hM) h)
  · refine pk_b1 pk_top (fun _ _ => ?_)
    refine pk_ite ?_ ?_
    · exact (W_X12_counted_18 (sub_tr (by decide +kernel) hM) h)
    · refine pk_b1 (W_X12_laysOthers (sub_tr (by decide +kernel) hM) h) (fun s_1 (h_2 : KB M z s_1) => ?_)
      refine pk_b2 (W_X12_sureOf (sub_tr (by decide +kernel) hM) h_2) (fun _ s_3 (h_4 : KB M z s_3) => ?_)
      refine pk_nn ?_
      extract_lets +onlyGivenNames v_5
      clear_value v_5
      refine pk_nn ?_
      extract_lets +onlyGivenNames v_6
      clear_value v_6
      refine pk_ite ?_ ?_
      · exact pk_some h_4
      · refine pk_nn ?_
        extract_lets +onlyGivenNames v_7
        clear_value v_7
        exact pk_some h_4
theorem W_X12_visit_17 {M : Nat} {z : mG} {s : mG} (hM : sub 0 M) (h : KB M z s) : pk (F_X12_visit_17 s) (fun τ => KB M z τ.2) := by
  unfold F_X12_visit_17
  exact pk_some h
theorem W_X12_visit_154 {M : Nat} {z : mG} {x1 : Int32} {x2 : Int32} {x3 : Int64} {x5 : Int32} {x6 : Int64} {x8 : Int32} {s : mG} (hM : sub 0 M) (h : KB M z s) : pk (F_X12_visit_154 x1 x2 x3 x5 x6 x8 s) (se (fun τ => KB M z τ.2.2.2.2.2.2) (fun τ => KB M z τ.2)) := by
  unfold F_X12_visit_154
  exact pk_some h
theorem W_X12_visit_B34 {M : Nat} {z : mG} {x1 : Int32} {x2 : Int32} {x3 : Int64} {x5 : Int32} {x6 : Int64} {x8 : Int32} {s : mG} (hM : sub 237684487542793012780631851008 M) (h : KB M z s) : pk (F_X12_visit_B34 x1 x2 x3 x5 x6 x8 s) (se (fun τ => KB M z τ.2.2.2.2.2.2) (fun τ => KB M z τ.2)) := by
  unfold F_X12_visit_B34
  refine pk_ite ?_ ?_
  · refine pk_ite ?_ ?_
    · exact pk_some h
    · exact pk_some h
  · refine pk_nn ?_
    refine pk_b2 (W_X12_saysIn (sub_tr (by decide +kernel) hM) h) (fun _ s_1 (h_2 : KB M z s_1) => ?_)
    refine pk_nn ?_
    refine pk_b2 (W_X12_saysIn (sub_tr (by decide +kernel) hM) h_2) (fun _ s_3 (h_4 : KB M z s_3) => ?_)
    extract_lets +onlyGivenNames v_5
    clear_value v_5
    refine pk_ite ?_ ?_
    · exact (W_X12_visit_154 (sub_tr (by decide +kernel) hM) h_4)
    · exact (W_X12_visit_154 (sub_tr (by decide +kernel) hM) h_4)
theorem W_X12_visit_L34 {M : Nat} {z : mG} {x1 : Int32} {x2 : Int32} {x3 : Int64} {x5 : Int32} {x6 : Int64} {x8 : Int32} {s : mG} (hM : sub 237684487542793012780631851008 M) (h : KB M z s) : pk (F_X12_visit_L34 x1 x2 x3 x5 x6 x8 s) (fun τ => KB M z τ.2) := by
  unfold F_X12_visit_L34
  refine pk_whl (fun v => KB M z v.2.2.2.2.2.2) h (fun v hv => ?_)
  obtain ⟨y0, y1, y2, y3, y4, y5, y6⟩ := v
  exact W_X12_visit_B34 (sub_tr (by decide +kernel) hM) hv
theorem W_X12_visit {M : Nat} {z : mG} {a1 : Int32} {a2 : Int32} {s : mG} (hM : sub 237684487542793012780631851008 M) (h : KB M z s) : pk (F_X12_visit a1 a2 s) (fun τ => KB M z τ.2) := by
  unfold F_X12_visit
  refine pk_b1 pk_top (fun _ _ => ?_)
  refine pk_ite ?_ ?_
  · exact (W_X12_visit_17 (sub_tr (by decide +kernel) hM) h)
  · refine pk_b1 pk_top (fun _ _ => ?_)
    refine pk_ite ?_ ?_
    · exact (W_X12_visit_17 (sub_tr (by decide +kernel) hM) h)
    · refine pk_b2 (W_X12_sureOf (sub_tr (by decide +kernel) hM) h) (fun _ s_1 (h_2 : KB M z s_1) => ?_)
      exact (W_X12_visit_L34 (sub_tr (by decide +kernel) hM) h_2)
theorem W_X12_movesIn_36 {M : Nat} {z : mG} {x1 : Int32} {x3 : Int32} {y0 : Int32} {y2 : Int32} {s : mG} (hM : sub 237684487542793012780631851008 M) (h : KB M z s) : pk (F_X12_movesIn_36 x1 x3 y0 y2 s) (se (fun τ => KB M z τ.2.2.2) (fun τ => KB M z τ.2)) := by
  unfold F_X12_movesIn_36
  refine pk_nn ?_
  refine pk_b2 (W_X12_saysIn (sub_tr (by decide +kernel) hM) h) (fun _ s_1 (h_2 : KB M z s_1) => ?_)
  exact pk_some h_2
theorem W_X12_movesIn_B4 {M : Nat} {z : mG} {x1 : Int32} {x2 : Int32} {x3 : Int32} {s : mG} (hM : sub 237684487542793012780631851008 M) (h : KB M z s) : pk (F_X12_movesIn_B4 x1 x2 x3 s) (se (fun τ => KB M z τ.2.2.2) (fun τ => KB M z τ.2)) := by
  unfold F_X12_movesIn_B4
  refine pk_ite ?_ ?_
  · exact pk_some h
  · refine pk_nn ?_
    refine pk_ite ?_ ?_
    · exact (W_X12_movesIn_36 (sub_tr (by decide +kernel) hM) h)
    · exact (W_X12_movesIn_36 (sub_tr (by decide +kernel) hM) h)
theorem W_X12_movesIn_L4 {M : Nat} {z : mG} {x1 : Int32} {x2 : Int32} {x3 : Int32} {s : mG} (hM : sub 237684487542793012780631851008 M) (h : KB M z s) : pk (F_X12_movesIn_L4 x1 x2 x3 s) (fun τ => KB M z τ.2) := by
  unfold F_X12_movesIn_L4
  refine pk_whl (fun v => KB M z v.2.2.2) h (fun v hv => ?_)
  obtain ⟨y0, y1, y2, y3⟩ := v
  exact W_X12_movesIn_B4 (sub_tr (by decide +kernel) hM) hv
theorem W_X12_movesIn {M : Nat} {z : mG} {a1 : Int32} {s : mG} (hM : sub 237684487542793012780631851008 M) (h : KB M z s) : pk (F_X12_movesIn a1 s) (fun τ => KB M z τ.2) := by
  unfold F_X12_movesIn
  exact (W_X12_movesIn_L4 (sub_tr (by decide +kernel) hM) h)
theorem W_X12_expect {M : Nat} {z : mG} {s : mG} (hM : sub 237684487542793012780631851008 M) (h : KB M z s) : pk (F_X12_expect s) (fun τ => KB M z τ.2) := by
  unfold F_X12_expect
  refine pk_b2 (W_X12_movesIn (sub_tr (by decide +kernel) hM) h) (fun _ s_1 (h_2 : KB M z s_1) => ?_)
  exact pk_some h_2
theorem W_X12_busy_57 {M : Nat} {z : mG} {x1 : Int32} {x2 : Int32} {x3 : Int32} {x4 : Int32} {s : mG} (hM : sub 0 M) (h : KB M z s) : pk (F_X12_busy_57 x1 x2 x3 x4 s) (se (fun τ => KB M z τ.2.2.2.2) (fun τ => KB M z τ.2)) := by
  unfold F_X12_busy_57
  exact pk_some h
theorem W_X12_busy_B29 {M : Nat} {z : mG} {x1 : Int32} {x2 : Int32} {x3 : Int32} {x4 : Int32} {s : mG} (hM : sub 237684487542793012780631851008 M) (h : KB M z s) : pk (F_X12_busy_B29 x1 x2 x3 x4 s) (se (fun τ => KB M z τ.2.2.2.2) (fun τ => KB M z τ.2)) := by
  unfold F_X12_busy_B29
  refine pk_ite ?_ ?_
  · refine pk_ite ?_ ?_
    · exact pk_some h
    · refine pk_b2 (W_X12_movesIn (sub_tr (by decide +kernel) hM) h) (fun _ s_1 (h_2 : KB M z s_1) => ?_)
      exact pk_some h_2
  · refine pk_b2 (W_X12_movesIn (sub_tr (by decide +kernel) hM) h) (fun _ s_3 (h_4 : KB M z s_3) => ?_)
    refine pk_b2 (W_X12_movesIn (sub_tr (by decide +kernel) hM) h_4) (fun _ s_5 (h_6 : KB M z s_5) => ?_)
    refine pk_ite ?_ ?_
    · exact (W_X12_busy_57 (sub_tr (by decide +kernel) hM) h_6)
    · exact (W_X12_busy_57 (sub_tr (by decide +kernel) hM) h_6)
theorem W_X12_busy_L29 {M : Nat} {z : mG} {x1 : Int32} {x2 : Int32} {x3 : Int32} {x4 : Int32} {s : mG} (hM : sub 237684487542793012780631851008 M) (h : KB M z s) : pk (F_X12_busy_L29 x1 x2 x3 x4 s) (fun τ => KB M z τ.2) := by
  unfold F_X12_busy_L29
  refine pk_whl (fun v => KB M z v.2.2.2.2) h (fun v hv => ?_)
  obtain ⟨y0, y1, y2, y3, y4⟩ := v
  exact W_X12_busy_B29 (sub_tr (by decide +kernel) hM) hv
theorem W_X12_busy {M : Nat} {z : mG} {a1 : Int32} {s : mG} (hM : sub 237684487542793012780631851008 M) (h : KB M z s) : pk (F_X12_busy a1 s) (fun τ => KB M z τ.2) := by
  unfold F_X12_busy
  refine pk_b1 pk_top (fun _ _ => ?_)
  refine pk_ite ?_ ?_
  · exact pk_some h
  · extract_lets +onlyGivenNames v_1
    clear_value v_1
    exact (W_X12_busy_L29 (sub_tr (by decide +kernel) hM) h)
theorem W_X12_lack_80 {M : Nat} {z : mG} {x1 : Int32} {x2 : Int32} {x3 : Int32} {x4 : Int64} {x6 : Int32} {s : mG} (hM : sub 0 M) (h : KB M z s) : pk (F_X12_lack_80 x1 x2 x3 x4 x6 s) (se (fun τ => KB M z τ.2.2.2.2.2) (fun τ => KB M z τ.2)) := by
  unfold F_X12_lack_80
  exact pk_some h
theorem W_X12_lack_B21 {M : Nat} {z : mG} {x1 : Int32} {x2 : Int32} {x3 : Int32} {x4 : Int64} {x6 : Int32} {s : mG} (hM : sub 237684487542793012780631851008 M) (h : KB M z s) : pk (F_X12_lack_B21 x1 x2 x3 x4 x6 s) (se (fun τ => KB M z τ.2.2.2.2.2) (fun τ => KB M z τ.2)) := by
  unfold F_X12_lack_B21
  refine pk_ite ?_ ?_
  · refine pk_ite ?_ ?_
    · exact pk_some h
    · refine pk_ite ?_ ?_
      · extract_lets +onlyGivenNames v_1
        clear_value v_1
        exact pk_some h
      · exact pk_some h
  · refine pk_nn ?_
    refine pk_ite ?_ ?_
    · refine pk_nn ?_
      extract_lets +onlyGivenNames v_2
      clear_value v_2
      refine pk_b2 (W_X12_sureOf (sub_tr (by decide +kernel) hM) h) (fun _ s_3 (h_4 : KB M z s_3) => ?_)
      extract_lets +onlyGivenNames v_5
      clear_value v_5
      exact (W_X12_lack_80 (sub_tr (by decide +kernel) hM) h_4)
    · exact (W_X12_lack_80 (sub_tr (by decide +kernel) hM) h)
theorem W_X12_lack_L21 {M : Nat} {z : mG} {x1 : Int32} {x2 : Int32} {x3 : Int32} {x4 : Int64} {x6 : Int32} {s : mG} (hM : sub 237684487542793012780631851008 M) (h : KB M z s) : pk (F_X12_lack_L21 x1 x2 x3 x4 x6 s) (fun τ => KB M z τ.2) := by
  unfold F_X12_lack_L21
  refine pk_whl (fun v => KB M z v.2.2.2.2.2) h (fun v hv => ?_)
  obtain ⟨y0, y1, y2, y3, y4, y5⟩ := v
  exact W_X12_lack_B21 (sub_tr (by decide +kernel) hM) hv
theorem W_X12_lack {M : Nat} {z : mG} {a1 : Int32} {s : mG} (hM : sub 237684487542793012780631851008 M) (h : KB M z s) : pk (F_X12_lack a1 s) (fun τ => KB M z τ.2) := by
  unfold F_X12_lack
  refine pk_b1 pk_top (fun _ _ => ?_)
  refine pk_ite ?_ ?_
  · exact pk_some h
  · exact (W_X12_lack_L21 (sub_tr (by decide +kernel) hM) h)
theorem W_X12_empty_64 {M : Nat} {z : mG} {x1 : Int32} {x4 : Int32} {y0 : Int64} {s : mG} (hM : sub 0 M) (h : KB M z s) : pk (F_X12_empty_64 x1 x4 y0 s) (se (fun τ => KB M z τ.2.2.2) (fun τ => KB M z τ.2)) := by
  unfold F_X12_empty_64
  exact pk_some h
theorem W_X12_empty_B18 {M : Nat} {z : mG} {x1 : Int32} {x2 : Int64} {x4 : Int32} {s : mG} (hM : sub 237684487542793012780631851008 M) (h : KB M z s) : pk (F_X12_empty_B18 x1 x2 x4 s) (se (fun τ => KB M z τ.2.2.2) (fun τ => KB M z τ.2)) := by
  unfold F_X12_empty_B18
  refine pk_ite ?_ ?_
  · exact pk_some h
  · refine pk_nn ?_
    refine pk_ite ?_ ?_
    · refine pk_b2 (W_X12_sureOf (sub_tr (by decide +kernel) hM) h) (fun _ s_1 (h_2 : KB M z s_1) => ?_)
      exact (W_X12_empty_64 (sub_tr (by decide +kernel) hM) h_2)
    · exact (W_X12_empty_64 (sub_tr (by decide +kernel) hM) h)
theorem W_X12_empty_L18 {M : Nat} {z : mG} {x1 : Int32} {x2 : Int64} {x4 : Int32} {s : mG} (hM : sub 237684487542793012780631851008 M) (h : KB M z s) : pk (F_X12_empty_L18 x1 x2 x4 s) (fun τ => KB M z τ.2) := by
  unfold F_X12_empty_L18
  refine pk_whl (fun v => KB M z v.2.2.2) h (fun v hv => ?_)
  obtain ⟨y0, y1, y2, y3⟩ := v
  exact W_X12_empty_B18 (sub_tr (by decide +kernel) hM) hv
theorem W_X12_empty {M : Nat} {z : mG} {a1 : Int32} {s : mG} (hM : sub 237684487542793012780631851008 M) (h : KB M z s) : pk (F_X12_empty a1 s) (fun τ => KB M z τ.2) := by
  unfold F_X12_empty
  refine pk_b1 pk_top (fun _ _ => ?_)
  refine pk_ite ?_ ?_
  · exact pk_some h
  · exact (W_X12_empty_L18 (sub_tr (by decide +kernel) hM) h)
theorem W_X12_isKnockedAhead_42 {M : Nat} {z : mG} {s : mG} (hM : sub 0 M) (h : KB M z s) : pk (F_X12_isKnockedAhead_42 s) (fun τ => KB M z τ.2) := by
  unfold F_X12_isKnockedAhead_42
  exact pk_some h
theorem W_X12_isKnockedAhead_46 {M : Nat} {z : mG} {s : mG} (hM : sub 0 M) (h : KB M z s) : pk (F_X12_isKnockedAhead_46 s) (fun τ => KB M z τ.2) := by
  unfold F_X12_isKnockedAhead_46
  exact pk_some h
theorem W_X12_isKnockedAhead {M : Nat} {z : mG} {a1 : Int32} {a2 : Int32} {s : mG} (hM : sub 237684487542793012780631851008 M) (h : KB M z s) : pk (F_X12_isKnockedAhead a1 a2 s) (fun τ => KB M z τ.2) := by
  unfold F_X12_isKnockedAhead
  refine pk_b1 pk_top (fun _ _ => ?_)
  refine pk_b2 (W_X12_sureOf (sub_tr (by decide +kernel) hM) h) (fun _ s_1 (h_2 : KB M z s_1) => ?_)
  refine pk_b1 pk_top (fun _ _ => ?_)
  refine pk_b2 (W_X12_sureOf (sub_tr (by decide +kernel) hM) h_2) (fun _ s_3 (h_4 : KB M z s_3) => ?_)
  refine pk_ite ?_ ?_
  · exact (W_X12_isKnockedAhead_42 (sub_tr (by decide +kernel) hM) h_4)
  · refine pk_ite ?_ ?_
    · refine pk_ite ?_ ?_
      · exact (W_X12_isKnockedAhead_46 (sub_tr (by decide +kernel) hM) h_4)
      · exact (W_X12_isKnockedAhead_42 (sub_tr (by decide +kernel) hM) h_4)
    · exact (W_X12_isKnockedAhead_46 (sub_tr (by decide +kernel) hM) h_4)
theorem W_X12_knocks_52 {M : Nat} {z : mG} {x1 : Int32} {x2 : Int32} {x4 : Int32} {y0 : Int32} {y1 : Int32} {s : mG} (hM : sub 0 M) (h : KB M z s) : pk (F_X12_knocks_52 x1 x2 x4 y0 y1 s) (se (fun τ => KB M z τ.2.2.2.2) (se (fun τ => KB M z τ.2.2) (fun τ => KB M z τ.2))) := by
  unfold F_X12_knocks_52
  exact pk_some h
theorem W_X12_knocks_51 {M : Nat} {z : mG} {x1 : Int32} {x2 : Int32} {x4 : Int32} {y0 : Int32} {s : mG} (hM : sub 0 M) (h : KB M z s) : pk (F_X12_knocks_51 x1 x2 x4 y0 s) (se (fun τ => KB M z τ.2.2.2.2) (se (fun τ => KB M z τ.2.2) (fun τ => KB M z τ.2))) := by
  unfold F_X12_knocks_51
  exact (W_X12_knocks_52 (sub_tr (by decide +kernel) hM) h)
theorem W_X12_knocks_B18 {M : Nat} {z : mG} {x1 : Int32} {x2 : Int32} {x3 : Int32} {x4 : Int32} {s : mG} (hM : sub 237684487542793012780631851008 M) (h : KB M z s) : pk (F_X12_knocks_B18 x1 x2 x3 x4 s) (se (fun τ => KB M z τ.2.2.2.2) (se (fun τ => KB M z τ.2.2) (fun τ => KB M z τ.2))) := by
  unfold F_X12_knocks_B18
  refine pk_ite ?_ ?_
  · refine pk_ite ?_ ?_
    · exact pk_some h
    · exact pk_some h
  · refine pk_ite ?_ ?_
    · exact (W_X12_knocks_51 (sub_tr (by decide +kernel) hM) h)
    · refine pk_b2 (W_X12_isKnockedAhead (sub_tr (by decide +kernel) hM) h) (fun _ s_1 (h_2 : KB M z s_1) => ?_)
      refine pk_ite ?_ ?_
      · exact (W_X12_knocks_51 (sub_tr (by decide +kernel) hM) h_2)
      · exact (W_X12_knocks_52 (sub_tr (by decide +kernel) hM) h_2)
theorem W_X12_knocks_L18 {M : Nat} {z : mG} {x1 : Int32} {x2 : Int32} {x3 : Int32} {x4 : Int32} {s : mG} (hM : sub 237684487542793012780631851008 M) (h : KB M z s) : pk (F_X12_knocks_L18 x1 x2 x3 x4 s) (se (fun τ => KB M z τ.2.2) (fun τ => KB M z τ.2)) := by
  unfold F_X12_knocks_L18
  refine pk_whl (fun v => KB M z v.2.2.2.2) h (fun v hv => ?_)
  obtain ⟨y0, y1, y2, y3, y4⟩ := v
  exact W_X12_knocks_B18 (sub_tr (by decide +kernel) hM) hv
theorem W_X12_knocks_B2 {M : Nat} {z : mG} {x1 : Int32} {x2 : Int32} {s : mG} (hM : sub 237684487542793012780631851008 M) (h : KB M z s) : pk (F_X12_knocks_B2 x1 x2 s) (se (fun τ => KB M z τ.2.2) (fun τ => KB M z τ.2)) := by
  unfold F_X12_knocks_B2
  refine pk_ite ?_ ?_
  · exact pk_some h
  · exact (W_X12_knocks_L18 (sub_tr (by decide +kernel) hM) h)
theorem W_X12_knocks_L2 {M : Nat} {z : mG} {x1 : Int32} {x2 : Int32} {s : mG} (hM : sub 237684487542793012780631851008 M) (h : KB M z s) : pk (F_X12_knocks_L2 x1 x2 s) (fun τ => KB M z τ.2) := by
  unfold F_X12_knocks_L2
  refine pk_whl (fun v => KB M z v.2.2) h (fun v hv => ?_)
  obtain ⟨y0, y1, y2⟩ := v
  exact W_X12_knocks_B2 (sub_tr (by decide +kernel) hM) hv
theorem W_X12_knocks {M : Nat} {z : mG} {a1 : Int32} {s : mG} (hM : sub 237684487542793012780631851008 M) (h : KB M z s) : pk (F_X12_knocks a1 s) (fun τ => KB M z τ.2) := by
  unfold F_X12_knocks
  exact (W_X12_knocks_L2 (sub_tr (by decide +kernel) hM) h)
theorem W_X12_room_67 {M : Nat} {z : mG} {s : mG} (hM : sub 0 M) (h : KB M z s) : pk (F_X12_room_67 s) (fun τ => KB M z τ.2) := by
  unfold F_X12_room_67
  exact pk_some h
theorem W_X12_room {M : Nat} {z : mG} {a1 : Int32} {a2 : Int32} {a3 : Int32} {a4 : Int32} {s : mG} (hM : sub 618970019642690137449562112 M) (h : KB M z s) : pk (F_X12_room a1 a2 a3 a4 s) (fun τ => KB M z τ.2) := by
  unfold F_X12_room
  refine pk_ite ?_ ?_
  · extract_lets +onlyGivenNames s_1
    have h_2 : KB M z s_1 := KB_mu h (hM 89 (by decide +kernel))
    clear_value s_1
    exact pk_some h_2
  · refine pk_b1 pk_top (fun _ _ => ?_)
    refine pk_ite ?_ ?_
    · exact (W_X12_room_67 (sub_tr (by decide +kernel) hM) h)
    · refine pk_b1 pk_top (fun _ _ => ?_)
      refine pk_ite ?_ ?_
      · exact (W_X12_room_67 (sub_tr (by decide +kernel) hM) h)
      · refine pk_b1 pk_top (fun _ _ => ?_)
        refine pk_ite ?_ ?_
        · exact (W_X12_room_67 (sub_tr (by decide +kernel) hM) h)
        · refine pk_b1 pk_top (fun _ _ => ?_)
          refine pk_ite ?_ ?_
          · exact (W_X12_room_67 (sub_tr (by decide +kernel) hM) h)
          · refine pk_ite ?_ ?_
            · exact (W_X12_room_67 (sub_tr (by decide +kernel) hM) h)
            · extract_lets +onlyGivenNames v_3
              clear_value v_3
              refine pk_nn ?_
              extract_lets +onlyGivenNames s_4
              have h_5 : KB M z s_4 := KB_mu h (hM 89 (by decide +kernel))
              clear_value s_4
              refine pk_nn ?_
              extract_lets +onlyGivenNames s_6
              have h_7 : KB M z s_6 := KB_mu h_5 (hM 89 (by decide +kernel))
              clear_value s_6
              refine pk_nn ?_
              extract_lets +onlyGivenNames s_8
              have h_9 : KB M z s_8 := KB_mu h_7 (hM 89 (by decide +kernel))
              clear_value s_8
              refine pk_nn ?_
              extract_lets +onlyGivenNames s_10
              have h_11 : KB M z s_10 := KB_mu h_9 (hM 89 (by decide +kernel))
              clear_value s_10
              extract_lets +onlyGivenNames s_12
              have h_13 : KB M z s_12 := KB_mu h_11 (hM 89 (by decide +kernel))
              clear_value s_12
              exact pk_some h_13
theorem W_X12_laysFloors_B22 {M : Nat} {z : mG} {x1 : Int32} {s : mG} (hM : sub 237684487542793012780631851008 M) (h : KB M z s) : pk (F_X12_laysFloors_B22 x1 s) (se (fun τ => KB M z τ.2) (fun τ => KB M z τ)) := by
  unfold F_X12_laysFloors_B22
  refine pk_ite ?_ ?_
  · exact pk_some h
  · refine pk_nn ?_
    extract_lets +onlyGivenNames v_1
    clear_value v_1
    refine pk_nn ?_
    refine pk_b2 (W_X12_sureOf (sub_tr (by decide +kernel) hM) h) (fun _ s_2 (h_3 : KB M z s_2) => ?_)
    refine pk_nn ?_
    extract_lets +onlyGivenNames s_4
    have h_5 : KB M z s_4 := h_3
    clear_value s_4
    exact pk_some h_5
theorem W_X12_laysFloors_L22 {M : Nat} {z : mG} {x1 : Int32} {s : mG} (hM : sub 237684487542793012780631851008 M) (h : KB M z s) : pk (F_X12_laysFloors_L22 x1 s) (fun τ => KB M z τ) := by
  unfold F_X12_laysFloors_L22
  refine pk_whl (fun v => KB M z v.2) h (fun v hv => ?_)
  obtain ⟨y0, y1⟩ := v
  exact W_X12_laysFloors_B22 (sub_tr (by decide +kernel) hM) hv
theorem W_X12_laysFloors_B2 {M : Nat} {z : mG} {x1 : Int32} {s : mG} (hM : sub 237684487542793012780631851008 M) (h : KB M z s) : pk (F_X12_laysFloors_B2 x1 s) (se (fun τ => KB M z τ.2) (fun τ => KB M z τ)) := by
  unfold F_X12_laysFloors_B2
  refine pk_ite ?_ ?_
  · refine pk_b1r ?_
    exact (W_X12_laysFloors_L22 (sub_tr (by decide +kernel) hM) h)
  · refine pk_nn ?_
    extract_lets +onlyGivenNames s_1
    have h_2 : KB M z s_1 := h
    clear_value s_1
    exact pk_some h_2
theorem W_X12_laysFloors_L2 {M : Nat} {z : mG} {x1 : Int32} {s : mG} (hM : sub 237684487542793012780631851008 M) (h : KB M z s) : pk (F_X12_laysFloors_L2 x1 s) (fun τ => KB M z τ) := by
  unfold F_X12_laysFloors_L2
  refine pk_whl (fun v => KB M z v.2) h (fun v hv => ?_)
  obtain ⟨y0, y1⟩ := v
  exact W_X12_laysFloors_B2 (sub_tr (by decide +kernel) hM) hv
theorem W_X12_laysFloors {M : Nat} {z : mG} {s : mG} (hM : sub 237684487542793012780631851008 M) (h : KB M z s) : pk (F_X12_laysFloors s) (fun τ => KB M z τ) := by
  unfold F_X12_laysFloors
  exact (W_X12_laysFloors_L2 (sub_tr (by decide +kernel) hM) h)
theorem W_X12_searches_169 {M : Nat} {z : mG} {rec : Int32 → Int32 → Int32 → Int64 → mG → Option (mG)} {x1 : Int32} {x2 : Int32} {x3 : Int32} {x4 : Int64} {x6 : Int32} {s : mG} (hM : sub 0 M) (hrec : ∀ (b0 : Int32) (b1 : Int32) (b2 : Int32) (b3 : Int64) (r : mG), KB M z r → pk (rec b0 b1 b2 b3 r) (fun τ => KB M z τ)) (h : KB M z s) : pk (F_X12_searches_169 rec x1 x2 x3 x4 x6 s) (se (fun τ => KB M z τ.2.2.2.2.2) (fun τ => KB M z τ)) := by
  unfold F_X12_searches_169
  exact pk_some h
theorem W_X12_searches_120 {M : Nat} {z : mG} {rec : Int32 → Int32 → Int32 → Int64 → mG → Option (mG)} {x1 : Int32} {x2 : Int32} {x3 : Int32} {x4 : Int64} {x6 : Int32} {x7 : Int32} {y0 : Int32} {y1 : Int32} {y2 : Int32} {s : mG} (hM : sub 2535301200456458802993406410752 M) (hrec : ∀ (b0 : Int32) (b1 : Int32) (b2 : Int32) (b3 : Int64) (r : mG), KB M z r → pk (rec b0 b1 b2 b3 r) (fun τ => KB M z τ)) (h : KB M z s) : pk (F_X12_searches_120 rec x1 x2 x3 x4 x6 x7 y0 y1 y2 s) (se (fun τ => KB M z τ.2.2.2.2.2) (fun τ => KB M z τ)) := by
  unfold F_X12_searches_120
  refine pk_ite ?_ ?_
  · refine pk_ite ?_ ?_
    · refine pk_nn ?_
      extract_lets +onlyGivenNames s_1
      have h_2 : KB M z s_1 := KB_mu h (hM 101 (by decide +kernel))
      clear_value s_1
      refine pk_nn ?_
      refine pk_b1 (hrec _ _ _ _ _ h_2) (fun s_3 (h_4 : KB M z s_3) => ?_)
      exact (W_X12_searches_169 (sub_tr (by decide +kernel) hM) hrec h_4)
    · exact (W_X12_searches_169 (sub_tr (by decide +kernel) hM) hrec h)
  · exact (W_X12_searches_169 (sub_tr (by decide +kernel) hM) hrec h)
theorem W_X12_searches_93 {M : Nat} {z : mG} {rec : Int32 → Int32 → Int32 → Int64 → mG → Option (mG)} {x1 : Int32} {x2 : Int32} {x3 : Int32} {x4 : Int64} {x6 : Int32} {x8 : Int32} {y0 : Int32} {s : mG} (hM : sub 0 M) (hrec : ∀ (b0 : Int32) (b1 : Int32) (b2 : Int32) (b3 : Int64) (r : mG), KB M z r → pk (rec b0 b1 b2 b3 r) (fun τ => KB M z τ)) (h : KB M z s) : pk (F_X12_searches_93 rec x1 x2 x3 x4 x6 x8 y0 s) (se (fun τ => KB M z τ.2.2.2.2.2.2.2) (se (fun τ => KB M z τ.2.2.2.2.2) (fun τ => KB M z τ))) := by
  unfold F_X12_searches_93
  exact pk_some h
theorem W_X12_searches_88 {M : Nat} {z : mG} {rec : Int32 → Int32 → Int32 → Int64 → mG → Option (mG)} {x1 : Int32} {x2 : Int32} {x3 : Int32} {x4 : Int64} {x6 : Int32} {x8 : Int32} {s : mG} (hM : sub 0 M) (hrec : ∀ (b0 : Int32) (b1 : Int32) (b2 : Int32) (b3 : Int64) (r : mG), KB M z r → pk (rec b0 b1 b2 b3 r) (fun τ => KB M z τ)) (h : KB M z s) : pk (F_X12_searches_88 rec x1 x2 x3 x4 x6 x8 s) (se (fun τ => KB M z τ.2.2.2.2.2.2.2) (se (fun τ => KB M z τ.2.2.2.2.2) (fun τ => KB M z τ))) := by
  unfold F_X12_searches_88
  exact (W_X12_searches_93 (sub_tr (by decide +kernel) hM) hrec h)
theorem W_X12_searches_B65 {M : Nat} {z : mG} {rec : Int32 → Int32 → Int32 → Int64 → mG → Option (mG)} {x1 : Int32} {x2 : Int32} {x3 : Int32} {x4 : Int64} {x6 : Int32} {x7 : Int32} {x8 : Int32} {s : mG} (hM : sub 2535301200456458802993406410752 M) (hrec : ∀ (b0 : Int32) (b1 : Int32) (b2 : Int32) (b3 : Int64) (r : mG), KB M z r → pk (rec b0 b1 b2 b3 r) (fun τ => KB M z τ)) (h : KB M z s) : pk (F_X12_searches_B65 rec x1 x2 x3 x4 x6 x7 x8 s) (se (fun τ => KB M z τ.2.2.2.2.2.2.2) (se (fun τ => KB M z τ.2.2.2.2.2) (fun τ => KB M z τ))) := by
  unfold F_X12_searches_B65
  refine pk_ite ?_ ?_
  · refine pk_ite ?_ ?_
    · refine pk_b1r ?_
      exact (W_X12_searches_120 (sub_tr (by decide +kernel) hM) hrec h)
    · refine pk_b1r ?_
      exact (W_X12_searches_120 (sub_tr (by decide +kernel) hM) hrec h)
  · refine pk_ite ?_ ?_
    · refine pk_nn ?_
      refine pk_ite ?_ ?_
      · exact (W_X12_searches_88 (sub_tr (by decide +kernel) hM) hrec h)
      · exact (W_X12_searches_93 (sub_tr (by decide +kernel) hM) hrec h)
    · exact (W_X12_searches_88 (sub_tr (by decide +kernel) hM) hrec h)
theorem W_X12_searches_L65 {M : Nat} {z : mG} {rec : Int32 → Int32 → Int32 → Int64 → mG → Option (mG)} {x1 : Int32} {x2 : Int32} {x3 : Int32} {x4 : Int64} {x6 : Int32} {x7 : Int32} {x8 : Int32} {s : mG} (hM : sub 2535301200456458802993406410752 M) (hrec : ∀ (b0 : Int32) (b1 : Int32) (b2 : Int32) (b3 : Int64) (r : mG), KB M z r → pk (rec b0 b1 b2 b3 r) (fun τ => KB M z τ)) (h : KB M z s) : pk (F_X12_searches_L65 rec x1 x2 x3 x4 x6 x7 x8 s) (se (fun τ => KB M z τ.2.2.2.2.2) (fun τ => KB M z τ)) := by
  unfold F_X12_searches_L65
  refine pk_whl (fun v => KB M z v.2.2.2.2.2.2.2) h (fun v hv => ?_)
  obtain ⟨y0, y1, y2, y3, y4, y5, y6, y7⟩ := v
  exact W_X12_searches_B65 (sub_tr (by decide +kernel) hM) hrec hv
theorem W_X12_searches_B53 {M : Nat} {z : mG} {rec : Int32 → Int32 → Int32 → Int64 → mG → Option (mG)} {x1 : Int32} {x2 : Int32} {x3 : Int32} {x4 : Int64} {x6 : Int32} {s : mG} (hM : sub 2535301200456458802993406410752 M) (hrec : ∀ (b0 : Int32) (b1 : Int32) (b2 : Int32) (b3 : Int64) (r : mG), KB M z r → pk (rec b0 b1 b2 b3 r) (fun τ => KB M z τ)) (h : KB M z s) : pk (F_X12_searches_B53 rec x1 x2 x3 x4 x6 s) (se (fun τ => KB M z τ.2.2.2.2.2) (fun τ => KB M z τ)) := by
  unfold F_X12_searches_B53
  refine pk_ite ?_ ?_
  · exact pk_some h
  · exact (W_X12_searches_L65 (sub_tr (by decide +kernel) hM) hrec h)
theorem W_X12_searches_L53 {M : Nat} {z : mG} {rec : Int32 → Int32 → Int32 → Int64 → mG → Option (mG)} {x1 : Int32} {x2 : Int32} {x3 : Int32} {x4 : Int64} {x6 : Int32} {s : mG} (hM : sub 2535301200456458802993406410752 M) (hrec : ∀ (b0 : Int32) (b1 : Int32) (b2 : Int32) (b3 : Int64) (r : mG), KB M z r → pk (rec b0 b1 b2 b3 r) (fun τ => KB M z τ)) (h : KB M z s) : pk (F_X12_searches_L53 rec x1 x2 x3 x4 x6 s) (fun τ => KB M z τ) := by
  unfold F_X12_searches_L53
  refine pk_whl (fun v => KB M z v.2.2.2.2.2) h (fun v hv => ?_)
  obtain ⟨y0, y1, y2, y3, y4, y5⟩ := v
  exact W_X12_searches_B53 (sub_tr (by decide +kernel) hM) hrec hv
theorem W_X12_searches_50 {M : Nat} {z : mG} {rec : Int32 → Int32 → Int32 → Int64 → mG → Option (mG)} {x1 : Int32} {x2 : Int32} {x3 : Int32} {x4 : Int64} {s : mG} (hM : sub 2535301200456458802993406410752 M) (hrec : ∀ (b0 : Int32) (b1 : Int32) (b2 : Int32) (b3 : Int64) (r : mG), KB M z r → pk (rec b0 b1 b2 b3 r) (fun τ => KB M z τ)) (h : KB M z s) : pk (F_X12_searches_50 rec x1 x2 x3 x4 s) (fun τ => KB M z τ) := by
  unfold F_X12_searches_50
  exact (W_X12_searches_L53 (sub_tr (by decide +kernel) hM) hrec h)
theorem W_X12_searches_B24 {M : Nat} {z : mG} {rec : Int32 → Int32 → Int32 → Int64 → mG → Option (mG)} {x1 : Int32} {x2 : Int32} {x3 : Int32} {x4 : Int64} {x6 : Int32} {s : mG} (hM : sub 7605903601369376408980219232256 M) (hrec : ∀ (b0 : Int32) (b1 : Int32) (b2 : Int32) (b3 : Int64) (r : mG), KB M z r → pk (rec b0 b1 b2 b3 r) (fun τ => KB M z τ)) (h : KB M z s) : pk (F_X12_searches_B24 rec x1 x2 x3 x4 x6 s) (se (fun τ => KB M z τ.2.2.2.2.2) (fun τ => KB M z τ)) := by
  unfold F_X12_searches_B24
  refine pk_ite ?_ ?_
  · refine pk_b1r ?_
    exact (W_X12_searches_50 (sub_tr (by decide +kernel) hM) hrec h)
  · refine pk_nn ?_
    refine pk_nn ?_
    extract_lets +onlyGivenNames s_1
    have h_2 : KB M z s_1 := KB_mu h (hM 102 (by decide +kernel))
    clear_value s_1
    exact pk_some h_2
theorem W_X12_searches_L24 {M : Nat} {z : mG} {rec : Int32 → Int32 → Int32 → Int64 → mG → Option (mG)} {x1 : Int32} {x2 : Int32} {x3 : Int32} {x4 : Int64} {x6 : Int32} {s : mG} (hM : sub 7605903601369376408980219232256 M) (hrec : ∀ (b0 : Int32) (b1 : Int32) (b2 : Int32) (b3 : Int64) (r : mG), KB M z r → pk (rec b0 b1 b2 b3 r) (fun τ => KB M z τ)) (h : KB M z s) : pk (F_X12_searches_L24 rec x1 x2 x3 x4 x6 s) (fun τ => KB M z τ) := by
  unfold F_X12_searches_L24
  refine pk_whl (fun v => KB M z v.2.2.2.2.2) h (fun v hv => ?_)
  obtain ⟨y0, y1, y2, y3, y4, y5⟩ := v
  exact W_X12_searches_B24 (sub_tr (by decide +kernel) hM) hrec hv
theorem W_X12_searches {M : Nat} {z : mG} {rec : Int32 → Int32 → Int32 → Int64 → mG → Option (mG)} {a1 : Int32} {a2 : Int32} {a3 : Int32} {a4 : Int64} {s : mG} (hM : sub 7606213086379197754048944013312 M) (hrec : ∀ (b0 : Int32) (b1 : Int32) (b2 : Int32) (b3 : Int64) (r : mG), KB M z r → pk (rec b0 b1 b2 b3 r) (fun τ => KB M z τ)) (h : KB M z s) : pk (F_X12_searches rec a1 a2 a3 a4 s) (fun τ => KB M z τ) := by
  unfold F_X12_searches
  refine pk_ite ?_ ?_
  · exact (W_X12_searches_50 (sub_tr (by decide +kernel) hM) hrec h)
  · extract_lets +onlyGivenNames s_1
    have h_2 : KB M z s_1 := h
    clear_value s_1
    extract_lets +onlyGivenNames s_3
    have h_4 : KB M z s_3 := KB_mu h_2 (hM 88 (by decide +kernel))
    clear_value s_3
    exact (W_X12_searches_L24 (sub_tr (by decide +kernel) hM) hrec h_4)
theorem W_Q_X12_searches {M : Nat} {z : mG} (hM : sub 7606213086379197754048944013312 M) : ∀ (n : Nat) (a0 : Int32) (a1 : Int32) (a2 : Int32) (a3 : Int64) (s : mG), KB M z s → pk (Q_X12_searches n a0 a1 a2 a3 s) (fun τ => KB M z τ)
  | 0, _, _, _, _, _, _ => pk_none
  | n + 1, _, _, _, _, _, h => W_X12_searches (sub_tr (by decide +kernel) hM) (fun a0 a1 a2 a3 s h => W_Q_X12_searches hM n a0 a1 a2 a3 s h) h
theorem W_R_X12_searches {M : Nat} {z : mG} {a0 : Int32} {a1 : Int32} {a2 : Int32} {a3 : Int64} {s : mG} (hM : sub 7606213086379197754048944013312 M) (h : KB M z s) : pk (R_X12_searches a0 a1 a2 a3 s) (fun τ => KB M z τ) := W_Q_X12_searches hM 5 a0 a1 a2 a3 s h
theorem W_X12_fire_30 {M : Nat} {z : mG} {s : mG} (hM : sub 0 M) (h : KB M z s) : pk (F_X12_fire_30 s) (fun τ => KB M z τ.2) := by
  unfold F_X12_fire_30
  exact pk_some h
theorem W_X12_fire_32 {M : Nat} {z : mG} {x1 : Int32} {x2 : Int32} {s : mG} (hM : sub 7843897573921990766829575864320 M) (h : KB M z s) : pk (F_X12_fire_32 x1 x2 s) (fun τ => KB M z τ.2) := by
  unfold F_X12_fire_32
  refine pk_b1 (W_X12_laysFloors (sub_tr (by decide +kernel) hM) h) (fun s_1 (h_2 : KB M z s_1) => ?_)
  extract_lets +onlyGivenNames s_3
  have h_4 : KB M z s_3 := h_2
  clear_value s_3
  refine pk_b1 (W_X12_searches (sub_tr (by decide +kernel) hM) (fun _ _ _ _ _ h => W_R_X12_searches (sub_tr (by decide +kernel) hM) h) h_4) (fun s_5 (h_6 : KB M z s_5) => ?_)
  refine pk_ite ?_ ?_
  · extract_lets +onlyGivenNames v_7
    clear_value v_7
    exact pk_some h_6
  · refine pk_ite ?_ ?_
    · exact pk_some h_6
    · refine pk_ite ?_ ?_
      · exact pk_some h_6
      · refine pk_nn ?_
        extract_lets +onlyGivenNames v_8
        clear_value v_8
        exact pk_some h_6
theorem W_X12_fire {M : Nat} {z : mG} {a1 : Int32} {a2 : Int32} {s : mG} (hM : sub 7843897573921990766829575864320 M) (h : KB M z s) : pk (F_X12_fire a1 a2 s) (fun τ => KB M z τ.2) := by
  unfold F_X12_fire
  refine pk_b1 pk_top (fun _ _ => ?_)
  refine pk_ite ?_ ?_
  · exact (W_X12_fire_30 (sub_tr (by decide +kernel) hM) h)
  · refine pk_b1 pk_top (fun _ _ => ?_)
    refine pk_ite ?_ ?_
    · refine pk_b1 pk_top (fun _ _ => ?_)
      refine pk_ite ?_ ?_
      · exact (W_X12_fire_30 (sub_tr (by decide +kernel) hM) h)
      · exact (W_X12_fire_32 (sub_tr (by decide +kernel) hM) h)
    · exact (W_X12_fire_32 (sub_tr (by decide +kernel) hM) h)
theorem W_X12_laysDoors_161 {M : Nat} {z : mG} {x1 : Int32} {x2 : Int32} {x3 : Int32} {s : mG} (hM : sub 0 M) (h : KB M z s) : pk (F_X12_laysDoors_161 x1 x2 x3 s) (se (fun τ => KB M z τ.2.2.2) (se (fun τ => KB M z τ.2) (fun τ => KB M z τ))) := by
  unfold F_X12_laysDoors_161
  exact pk_some h
theorem W_X12_laysDoors_B45 {M : Nat} {z : mG} {x1 : Int32} {x2 : Int32} {x3 : Int32} {s : mG} (hM : sub 10378889289368628224754257494016 M) (h : KB M z s) : pk (F_X12_laysDoors_B45 x1 x2 x3 s) (se (fun τ => KB M z τ.2.2.2) (se (fun τ => KB M z τ.2) (fun τ => KB M z τ))) := by
  unfold F_X12_laysDoors_B45
  refine pk_ite ?_ ?_
  · exact pk_some h
  · refine pk_nn ?_
    refine pk_ite ?_ ?_
    · exact (W_X12_laysDoors_161 (sub_tr (by decide +kernel) hM) h)
    · refine pk_nn ?_
      refine pk_b2 (W_X12_saysIn (sub_tr (by decide +kernel) hM) h) (fun _ s_1 (h_2 : KB M z s_1) => ?_)
      refine pk_nn ?_
      refine pk_b2 (W_X12_saysIn (sub_tr (by decide +kernel) hM) h_2) (fun _ s_3 (h_4 : KB M z s_3) => ?_)
      extract_lets +onlyGivenNames v_5
      clear_value v_5
      refine pk_nn ?_
      refine pk_nn ?_
      extract_lets +onlyGivenNames s_6
      have h_7 : KB M z s_6 := KB_mu h_4 (hM 103 (by decide +kernel))
      clear_value s_6
      extract_lets +onlyGivenNames v_8
      clear_value v_8
      refine pk_nn ?_
      refine pk_nn ?_
      extract_lets +onlyGivenNames s_9
      have h_10 : KB M z s_9 := KB_mu h_7 (hM 103 (by decide +kernel))
      clear_value s_9
      exact (W_X12_laysDoors_161 (sub_tr (by decide +kernel) hM) h_10)
theorem W_X12_laysDoors_L45 {M : Nat} {z : mG} {x1 : Int32} {x2 : Int32} {x3 : Int32} {s : mG} (hM : sub 10378889289368628224754257494016 M) (h : KB M z s) : pk (F_X12_laysDoors_L45 x1 x2 x3 s) (se (fun τ => KB M z τ.2) (fun τ => KB M z τ)) := by
  unfold F_X12_laysDoors_L45
  refine pk_whl (fun v => KB M z v.2.2.2) h (fun v hv => ?_)
  obtain ⟨y0, y1, y2, y3⟩ := v
  exact W_X12_laysDoors_B45 (sub_tr (by decide +kernel) hM) hv
theorem W_X12_laysDoors_B2 {M : Nat} {z : mG} {x1 : Int32} {s : mG} (hM : sub 10378889289368628224754257494016 M) (h : KB M z s) : pk (F_X12_laysDoors_B2 x1 s) (se (fun τ => KB M z τ.2) (fun τ => KB M z τ)) := by
  unfold F_X12_laysDoors_B2
  refine pk_ite ?_ ?_
  · exact pk_some h
  · refine pk_nn ?_
    extract_lets +onlyGivenNames s_1
    have h_2 : KB M z s_1 := KB_mu h (hM 103 (by decide +kernel))
    clear_value s_1
    refine pk_nn ?_
    extract_lets +onlyGivenNames s_3
    have h_4 : KB M z s_3 := KB_mu h_2 (hM 103 (by decide +kernel))
    clear_value s_3
    extract_lets +onlyGivenNames v_5
    clear_value v_5
    exact (W_X12_laysDoors_L45 (sub_tr (by decide +kernel) hM) h_4)
theorem W_X12_laysDoors_L2 {M : Nat} {z : mG} {x1 : Int32} {s : mG} (hM : sub 10378889289368628224754257494016 M) (h : KB M z s) : pk (F_X12_laysDoors_L2 x1 s) (fun τ => KB M z τ) := by
  unfold F_X12_laysDoors_L2
  refine pk_whl (fun v => KB M z v.2) h (fun v hv => ?_)
  obtain ⟨y0, y1⟩ := v
  exact W_X12_laysDoors_B2 (sub_tr (by decide +kernel) hM) hv
theorem W_X12_laysDoors {M : Nat} {z : mG} {s : mG} (hM : sub 10378889289368628224754257494016 M) (h : KB M z s) : pk (F_X12_laysDoors s) (fun τ => KB M z τ) := by
  unfold F_X12_laysDoors
  exact (W_X12_laysDoors_L2 (sub_tr (by decide +kernel) hM) h)
end
