noncomputable section
theorem QQ_X12_say_22 {z : mG} {s : mG} (h : KQw z s) : pk (F_X12_say_22 s) (fun τ => KQw z τ.2) := by
  unfold F_X12_say_22
  exact pk_some h
theorem QQ_X12_say {z : mG} {a1 : Int32} {a2 : Int32} {a3 : Int32} {s : mG} (h : KQw z s) : pk (F_X12_say a1 a2 a3 s) (fun τ => KQw z τ.2) := by
  unfold F_X12_say
  refine pk_b1 pk_top (fun _ _ => ?_)
  refine pk_ite ?_ ?_
  · exact (QQ_X12_say_22 h)
  · refine pk_b1 pk_top (fun _ _ => ?_)
    refine pk_ite ?_ ?_
    · exact (QQ_X12_say_22 h)
    · refine pk_b1 pk_top (fun _ _ => ?_)
      refine pk_ite ?_ ?_
      · exact (QQ_X12_say_22 h)
      · refine pk_b2 (QQ_X12_sureOf h) (fun _ s_1 (h_2 : KQw z s_1) => ?_)
        refine pk_ite ?_ ?_
        · exact pk_some h_2
        · exact pk_some h_2
theorem QQ_X12_caller_59 {z : mG} {s : mG} (h : KQw z s) : pk (F_X12_caller_59 s) (fun τ => KQw z τ.2) := by
  unfold F_X12_caller_59
  exact pk_some h
theorem QQ_X12_caller {z : mG} {a1 : Int32} {a2 : Int32} {a3 : Int32} {s : mG} (h : KQw z s) : pk (F_X12_caller a1 a2 a3 s) (fun τ => KQw z τ.2) := by
  unfold F_X12_caller
  refine pk_ite ?_ ?_
  · extract_lets +onlyGivenNames s_1
    have h_2 : KQw z s_1 := KQw_mu h (Or.inl (by decide))
    clear_value s_1
    exact pk_some h_2
  · refine pk_b1 pk_top (fun _ _ => ?_)
    refine pk_ite ?_ ?_
    · exact (QQ_X12_caller_59 h)
    · refine pk_b1 pk_top (fun _ _ => ?_)
      refine pk_ite ?_ ?_
      · exact (QQ_X12_caller_59 h)
      · refine pk_b1 pk_top (fun _ _ => ?_)
        refine pk_ite ?_ ?_
        · exact (QQ_X12_caller_59 h)
        · refine pk_ite ?_ ?_
          · exact (QQ_X12_caller_59 h)
          · extract_lets +onlyGivenNames v_3
            clear_value v_3
            refine pk_nn ?_
            extract_lets +onlyGivenNames s_4
            have h_5 : KQw z s_4 := KQw_mu h (Or.inl (by decide))
            clear_value s_4
            refine pk_nn ?_
            extract_lets +onlyGivenNames s_6
            have h_7 : KQw z s_6 := KQw_mu h_5 (Or.inl (by decide))
            clear_value s_6
            refine pk_nn ?_
            extract_lets +onlyGivenNames s_8
            have h_9 : KQw z s_8 := KQw_mu h_7 (Or.inl (by decide))
            clear_value s_8
            extract_lets +onlyGivenNames s_10
            have h_11 : KQw z s_10 := KQw_mu h_9 (Or.inl (by decide))
            clear_value s_10
            exact pk_some h_11
theorem QQ_X12_said_149 {z : mG} {x1 : Int32} {x2 : Int32} {x4 : Int32} {y0 : Int32} {y1 : Int64} {s : mG} (h : KQw z s) : pk (F_X12_said_149 x1 x2 x4 y0 y1 s) (se (fun τ => KQw z τ.2.2.2.2) (fun τ => KQw z τ.2)) := by
  unfold F_X12_said_149
  extract_lets +onlyGivenNames v_1
  clear_value v_1
  exact pk_some h
theorem QQ_X12_said_108 {z : mG} {x1 : Int32} {x3 : Int32} {x4 : Int32} {x5 : Int32} {x6 : Int32} {x7 : Int64} {y0 : Int32} {y1 : Int32} {s : mG} (h : KQw z s) : pk (F_X12_said_108 x1 x3 x4 x5 x6 x7 y0 y1 s) (se (fun τ => KQw z τ.2.2.2.2) (fun τ => KQw z τ.2)) := by
  unfold F_X12_said_108
  refine pk_ite ?_ ?_
  · refine pk_nn ?_
    exact (QQ_X12_said_149 h)
  · refine pk_nn ?_
    exact (QQ_X12_said_149 h)
theorem QQ_X12_said_79 {z : mG} {x1 : Int32} {x2 : Int32} {x3 : Int32} {x4 : Int32} {x5 : Int32} {y0 : Int32} {s : mG} (h : KQw z s) : pk (F_X12_said_79 x1 x2 x3 x4 x5 y0 s) (se (fun τ => KQw z τ.2.2.2.2) (fun τ => KQw z τ.2)) := by
  unfold F_X12_said_79
  refine pk_nn ?_
  refine pk_b2 (QQ_X12_sureOf h) (fun _ s_1 (h_2 : KQw z s_1) => ?_)
  refine pk_ite ?_ ?_
  · exact (QQ_X12_said_108 h_2)
  · exact (QQ_X12_said_108 h_2)
theorem QQ_X12_said_B18 {z : mG} {x1 : Int32} {x2 : Int32} {x3 : Int32} {x4 : Int32} {s : mG} (h : KQw z s) : pk (F_X12_said_B18 x1 x2 x3 x4 s) (se (fun τ => KQw z τ.2.2.2.2) (fun τ => KQw z τ.2)) := by
  unfold F_X12_said_B18
  refine pk_ite ?_ ?_
  · refine pk_ite ?_ ?_
    · exact pk_some h
    · exact pk_some h
  · extract_lets +onlyGivenNames v_1
    clear_value v_1
    refine pk_nn ?_
    refine pk_nn ?_
    refine pk_nn ?_
    refine pk_b2 (QQ_X12_say h) (fun _ s_2 (h_3 : KQw z s_2) => ?_)
    refine pk_ite ?_ ?_
    · exact (QQ_X12_said_79 h_3)
    · exact (QQ_X12_said_79 h_3)
theorem QQ_X12_said_L18 {z : mG} {x1 : Int32} {x2 : Int32} {x3 : Int32} {x4 : Int32} {s : mG} (h : KQw z s) : pk (F_X12_said_L18 x1 x2 x3 x4 s) (fun τ => KQw z τ.2) := by
  unfold F_X12_said_L18
  refine pk_whl (fun v => KQw z v.2.2.2.2) h (fun v hv => ?_)
  obtain ⟨y0, y1, y2, y3, y4⟩ := v
  exact QQ_X12_said_B18 hv
theorem QQ_X12_said {z : mG} {a1 : Int32} {s : mG} (h : KQw z s) : pk (F_X12_said a1 s) (fun τ => KQw z τ.2) := by
  unfold F_X12_said
  refine pk_b1 pk_top (fun _ _ => ?_)
  refine pk_ite ?_ ?_
  · exact pk_some h
  · exact (QQ_X12_said_L18 h)
theorem QQ_X12_pair_20 {z : mG} {s : mG} (h : KQw z s) : pk (F_X12_pair_20 s) (fun τ => KQw z τ.2) := by
  unfold F_X12_pair_20
  exact pk_some h
theorem QQ_X12_pair_105 {z : mG} {x1 : Int32} {x2 : Int64} {x4 : Int32} {x5 : Int32} {x6 : Int32} {x7 : Int32} {s : mG} (h : KQw z s) : pk (F_X12_pair_105 x1 x2 x4 x5 x6 x7 s) (se (fun τ => KQw z τ.2.2.2.2.2.2) (se (fun τ => KQw z τ.2.2.2.2.2) (fun τ => KQw z τ.2))) := by
  unfold F_X12_pair_105
  exact pk_some h
theorem QQ_X12_pair_B53 {z : mG} {x1 : Int32} {x2 : Int64} {x4 : Int32} {x5 : Int32} {x6 : Int32} {x7 : Int32} {s : mG} (h : KQw z s) : pk (F_X12_pair_B53 x1 x2 x4 x5 x6 x7 s) (se (fun τ => KQw z τ.2.2.2.2.2.2) (se (fun τ => KQw z τ.2.2.2.2.2) (fun τ => KQw z τ.2))) := by
  unfold F_X12_pair_B53
  refine pk_ite ?_ ?_
  · exact pk_some h
  · refine pk_b2 (QQ_X12_sureOf h) (fun _ s_1 (h_2 : KQw z s_1) => ?_)
    refine pk_b2 (QQ_X12_sureOf h_2) (fun _ s_3 (h_4 : KQw z s_3) => ?_)
    extract_lets +onlyGivenNames v_5
    clear_value v_5
    refine pk_ite ?_ ?_
    · exact (QQ_X12_pair_105 h_4)
    · exact (QQ_X12_pair_105 h_4)
theorem QQ_X12_pair_L53 {z : mG} {x1 : Int32} {x2 : Int64} {x4 : Int32} {x5 : Int32} {x6 : Int32} {x7 : Int32} {s : mG} (h : KQw z s) : pk (F_X12_pair_L53 x1 x2 x4 x5 x6 x7 s) (se (fun τ => KQw z τ.2.2.2.2.2) (fun τ => KQw z τ.2)) := by
  unfold F_X12_pair_L53
  refine pk_whl (fun v => KQw z v.2.2.2.2.2.2) h (fun v hv => ?_)
  obtain ⟨y0, y1, y2, y3, y4, y5, y6⟩ := v
  exact QQ_X12_pair_B53 hv
theorem QQ_X12_pair_B35 {z : mG} {x1 : Int32} {x2 : Int64} {x4 : Int32} {x5 : Int32} {x6 : Int32} {s : mG} (h : KQw z s) : pk (F_X12_pair_B35 x1 x2 x4 x5 x6 s) (se (fun τ => KQw z τ.2.2.2.2.2) (fun τ => KQw z τ.2)) := by
  unfold F_X12_pair_B35
  refine pk_ite ?_ ?_
  · refine pk_ite ?_ ?_
    · exact pk_some h
    · refine pk_ite ?_ ?_
      · exact pk_some h
      · exact pk_some h
  · exact (QQ_X12_pair_L53 h)
theorem QQ_X12_pair_L35 {z : mG} {x1 : Int32} {x2 : Int64} {x4 : Int32} {x5 : Int32} {x6 : Int32} {s : mG} (h : KQw z s) : pk (F_X12_pair_L35 x1 x2 x4 x5 x6 s) (fun τ => KQw z τ.2) := by
  unfold F_X12_pair_L35
  refine pk_whl (fun v => KQw z v.2.2.2.2.2) h (fun v hv => ?_)
  obtain ⟨y0, y1, y2, y3, y4, y5⟩ := v
  exact QQ_X12_pair_B35 hv
theorem QQ_X12_pair {z : mG} {a1 : Int32} {s : mG} (h : KQw z s) : pk (F_X12_pair a1 s) (fun τ => KQw z τ.2) := by
  unfold F_X12_pair
  refine pk_b1 pk_top (fun _ _ => ?_)
  refine pk_ite ?_ ?_
  · exact (QQ_X12_pair_20 h)
  · refine pk_ite ?_ ?_
    · exact (QQ_X12_pair_L35 h)
    · exact (QQ_X12_pair_20 h)
theorem QQ_X12_laysChances_116 {z : mG} {x1 : Int32} {x2 : Int64} {x4 : Int32} {y1 : Int32} {y2 : Int64} {y3 : Int64} {s : mG} (h : KQw z s) : pk (F_X12_laysChances_116 x1 x2 x4 y1 y2 y3 s) (se (fun τ => KQw z τ.2.2.2) (se (fun τ => KQw z τ.2) (fun τ => KQw z τ))) := by
  unfold F_X12_laysChances_116
  refine pk_nn ?_
  extract_lets +onlyGivenNames s_1
  have h_2 : KQw z s_1 := h
  clear_value s_1
  exact pk_some h_2
theorem QQ_X12_laysChances_B64 {z : mG} {x1 : Int32} {x2 : Int64} {x4 : Int32} {s : mG} (h : KQw z s) : pk (F_X12_laysChances_B64 x1 x2 x4 s) (se (fun τ => KQw z τ.2.2.2) (se (fun τ => KQw z τ.2) (fun τ => KQw z τ))) := by
  unfold F_X12_laysChances_B64
  refine pk_ite ?_ ?_
  · exact pk_some h
  · refine pk_nn ?_
    refine pk_ite ?_ ?_
    · exact (QQ_X12_laysChances_116 h)
    · refine pk_nn ?_
      exact (QQ_X12_laysChances_116 h)
theorem QQ_X12_laysChances_L64 {z : mG} {x1 : Int32} {x2 : Int64} {x4 : Int32} {s : mG} (h : KQw z s) : pk (F_X12_laysChances_L64 x1 x2 x4 s) (se (fun τ => KQw z τ.2) (fun τ => KQw z τ)) := by
  unfold F_X12_laysChances_L64
  refine pk_whl (fun v => KQw z v.2.2.2) h (fun v hv => ?_)
  obtain ⟨y0, y1, y2, y3⟩ := v
  exact QQ_X12_laysChances_B64 hv
theorem QQ_X12_laysChances_B38 {z : mG} {x1 : Int32} {s : mG} (h : KQw z s) : pk (F_X12_laysChances_B38 x1 s) (se (fun τ => KQw z τ.2) (fun τ => KQw z τ)) := by
  unfold F_X12_laysChances_B38
  refine pk_ite ?_ ?_
  · exact pk_some h
  · refine pk_b2 (QQ_X12_sureOf h) (fun _ s_1 (h_2 : KQw z s_1) => ?_)
    exact (QQ_X12_laysChances_L64 h_2)
theorem QQ_X12_laysChances_L38 {z : mG} {x1 : Int32} {s : mG} (h : KQw z s) : pk (F_X12_laysChances_L38 x1 s) (fun τ => KQw z τ) := by
  unfold F_X12_laysChances_L38
  refine pk_whl (fun v => KQw z v.2) h (fun v hv => ?_)
  obtain ⟨y0, y1⟩ := v
  exact QQ_X12_laysChances_B38 hv
theorem QQ_X12_laysChances_29 {z : mG} {x1 : Int32} {y1 : Int32} {y2 : Int64} {s : mG} (h : KQw z s) : pk (F_X12_laysChances_29 x1 y1 y2 s) (se (fun τ => KQw z τ.2) (fun τ => KQw z τ)) := by
  unfold F_X12_laysChances_29
  refine pk_nn ?_
  extract_lets +onlyGivenNames s_1
  have h_2 : KQw z s_1 := h
  clear_value s_1
  exact pk_some h_2
theorem QQ_X12_laysChances_B2 {z : mG} {x1 : Int32} {s : mG} (h : KQw z s) : pk (F_X12_laysChances_B2 x1 s) (se (fun τ => KQw z τ.2) (fun τ => KQw z τ)) := by
  unfold F_X12_laysChances_B2
  refine pk_ite ?_ ?_
  · refine pk_b1r ?_
    exact (QQ_X12_laysChances_L38 h)
  · refine pk_ite ?_ ?_
    · exact (QQ_X12_laysChances_29 h)
    · exact (QQ_X12_laysChances_29 h)
theorem QQ_X12_laysChances_L2 {z : mG} {x1 : Int32} {s : mG} (h : KQw z s) : pk (F_X12_laysChances_L2 x1 s) (fun τ => KQw z τ) := by
  unfold F_X12_laysChances_L2
  refine pk_whl (fun v => KQw z v.2) h (fun v hv => ?_)
  obtain ⟨y0, y1⟩ := v
  exact QQ_X12_laysChances_B2 hv
theorem QQ_X12_laysChances {z : mG} {s : mG} (h : KQw z s) : pk (F_X12_laysChances s) (fun τ => KQw z τ) := by
  unfold F_X12_laysChances
  exact (QQ_X12_laysChances_L2 h)
theorem QQ_X12_many_98 {z : mG} {x1 : Int32} {x4 : Int32} {x5 : Int32} {s : mG} (h : KQw z s) : pk (F_X12_many_98 x1 x4 x5 s) (se (fun τ => KQw z τ.2.2.2) (fun τ => KQw z τ.2)) := by
  unfold F_X12_many_98
  exact pk_some h
theorem QQ_X12_many_B64 {z : mG} {x1 : Int32} {x4 : Int32} {x5 : Int32} {s : mG} (h : KQw z s) : pk (F_X12_many_B64 x1 x4 x5 s) (se (fun τ => KQw z τ.2.2.2) (fun τ => KQw z τ.2)) := by
  unfold F_X12_many_B64
  refine pk_ite ?_ ?_
  · refine pk_ite ?_ ?_
    · exact pk_some h
    · refine pk_nn ?_
      extract_lets +onlyGivenNames v_1
      clear_value v_1
      exact pk_some h
  · refine pk_nn ?_
    refine pk_nn ?_
    refine pk_ite ?_ ?_
    · exact (QQ_X12_many_98 h)
    · exact (QQ_X12_many_98 h)
theorem QQ_X12_many_L64 {z : mG} {x1 : Int32} {x4 : Int32} {x5 : Int32} {s : mG} (h : KQw z s) : pk (F_X12_many_L64 x1 x4 x5 s) (fun τ => KQw z τ.2) := by
  unfold F_X12_many_L64
  refine pk_whl (fun v => KQw z v.2.2.2) h (fun v hv => ?_)
  obtain ⟨y0, y1, y2, y3⟩ := v
  exact QQ_X12_many_B64 hv
theorem QQ_X12_many_B16 {z : mG} {x1 : Int32} {x2 : Int64} {x4 : Int32} {s : mG} (h : KQw z s) : pk (F_X12_many_B16 x1 x2 x4 s) (se (fun τ => KQw z τ.2.2.2) (fun τ => KQw z τ.2)) := by
  unfold F_X12_many_B16
  refine pk_ite ?_ ?_
  · refine pk_ite ?_ ?_
    · extract_lets +onlyGivenNames v_1
      clear_value v_1
      exact pk_some h
    · refine pk_b1 (QQ_X12_laysChances h) (fun s_2 (h_3 : KQw z s_2) => ?_)
      refine pk_b1r ?_
      exact (QQ_X12_many_L64 h_3)
  · refine pk_b2 (QQ_X12_sureOf h) (fun _ s_4 (h_5 : KQw z s_4) => ?_)
    exact pk_some h_5
theorem QQ_X12_many_L16 {z : mG} {x1 : Int32} {x2 : Int64} {x4 : Int32} {s : mG} (h : KQw z s) : pk (F_X12_many_L16 x1 x2 x4 s) (fun τ => KQw z τ.2) := by
  unfold F_X12_many_L16
  refine pk_whl (fun v => KQw z v.2.2.2) h (fun v hv => ?_)
  obtain ⟨y0, y1, y2, y3⟩ := v
  exact QQ_X12_many_B16 hv
theorem QQ_X12_many {z : mG} {a1 : Int32} {s : mG} (h : KQw z s) : pk (F_X12_many a1 s) (fun τ => KQw z τ.2) := by
  unfold F_X12_many
  refine pk_b1 pk_top (fun _ _ => ?_)
  refine pk_ite ?_ ?_
  · exact pk_some h
  · exact (QQ_X12_many_L16 h)
theorem QQ_X12_tagCostOf_B6 {z : mG} {x1 : Int32} {x2 : Int32} {x3 : Int32} {x4 : Int32} {x5 : Int32} {s : mG} (h : KQw z s) : pk (F_X12_tagCostOf_B6 x1 x2 x3 x4 x5 s) (se (fun τ => KQw z τ.2.2.2.2.2) (fun τ => KQw z τ.2)) := by
  unfold F_X12_tagCostOf_B6
  refine pk_ite ?_ ?_
  · extract_lets +onlyGivenNames v_1
    clear_value v_1
    exact pk_some h
  · refine pk_nn ?_
    refine pk_b2 (QQ_X12_saysIn h) (fun _ s_2 (h_3 : KQw z s_2) => ?_)
    exact pk_some h_3
theorem QQ_X12_tagCostOf_L6 {z : mG} {x1 : Int32} {x2 : Int32} {x3 : Int32} {x4 : Int32} {x5 : Int32} {s : mG} (h : KQw z s) : pk (F_X12_tagCostOf_L6 x1 x2 x3 x4 x5 s) (fun τ => KQw z τ.2) := by
  unfold F_X12_tagCostOf_L6
  refine pk_whl (fun v => KQw z v.2.2.2.2.2) h (fun v hv => ?_)
  obtain ⟨y0, y1, y2, y3, y4, y5⟩ := v
  exact QQ_X12_tagCostOf_B6 hv
theorem QQ_X12_tagCostOf {z : mG} {a1 : Int32} {a2 : Int32} {a3 : Int32} {s : mG} (h : KQw z s) : pk (F_X12_tagCostOf a1 a2 a3 s) (fun τ => KQw z τ.2) := by
  unfold F_X12_tagCostOf
  exact (QQ_X12_tagCostOf_L6 h)
theorem QQ_X12_tag_22 {z : mG} {s : mG} (h : KQw z s) : pk (F_X12_tag_22 s) (fun τ => KQw z τ.2) := by
  unfold F_X12_tag_22
  exact pk_some h
theorem QQ_X12_tag_57 {z : mG} {x1 : Int32} {x2 : Int32} {x3 : Int32} {x4 : Int32} {s : mG} (h : KQw z s) : pk (F_X12_tag_57 x1 x2 x3 x4 s) (se (fun τ => KQw z τ.2.2.2.2) (fun τ => KQw z τ.2)) := by
  unfold F_X12_tag_57
  exact pk_some h
theorem QQ_X12_tag_B29 {z : mG} {x1 : Int32} {x2 : Int32} {x3 : Int32} {x4 : Int32} {s : mG} (h : KQw z s) : pk (F_X12_tag_B29 x1 x2 x3 x4 s) (se (fun τ => KQw z τ.2.2.2.2) (fun τ => KQw z τ.2)) := by
  unfold F_X12_tag_B29
  refine pk_ite ?_ ?_
  · exact pk_some h
  · refine pk_b2 (QQ_X12_tagCostOf h) (fun _ s_1 (h_2 : KQw z s_1) => ?_)
    refine pk_b2 (QQ_X12_tagCostOf h_2) (fun _ s_3 (h_4 : KQw z s_3) => ?_)
    refine pk_ite ?_ ?_
    · exact (QQ_X12_tag_57 h_4)
    · exact (QQ_X12_tag_57 h_4)
theorem QQ_X12_tag_L29 {z : mG} {x1 : Int32} {x2 : Int32} {x3 : Int32} {x4 : Int32} {s : mG} (h : KQw z s) : pk (F_X12_tag_L29 x1 x2 x3 x4 s) (fun τ => KQw z τ.2) := by
  unfold F_X12_tag_L29
  refine pk_whl (fun v => KQw z v.2.2.2.2) h (fun v hv => ?_)
  obtain ⟨y0, y1, y2, y3, y4⟩ := v
  exact QQ_X12_tag_B29 hv
theorem QQ_X12_tag {z : mG} {a1 : Int32} {a2 : Int32} {s : mG} (h : KQw z s) : pk (F_X12_tag a1 a2 s) (fun τ => KQw z τ.2) := by
  unfold F_X12_tag
  refine pk_b1 pk_top (fun _ _ => ?_)
  refine pk_ite ?_ ?_
  · exact (QQ_X12_tag_22 h)
  · refine pk_b1 pk_top (fun _ _ => ?_)
    refine pk_ite ?_ ?_
    · exact (QQ_X12_tag_22 h)
    · exact (QQ_X12_tag_L29 h)
theorem QQ_X12_tagCost_42 {z : mG} {s : mG} (h : KQw z s) : pk (F_X12_tagCost_42 s) (fun τ => KQw z τ.2) := by
  unfold F_X12_tagCost_42
  exact pk_some h
theorem QQ_X12_tagCost {z : mG} {a1 : Int32} {a2 : Int32} {a3 : Int32} {s : mG} (h : KQw z s) : pk (F_X12_tagCost a1 a2 a3 s) (fun τ => KQw z τ.2) := by
  unfold F_X12_tagCost
  refine pk_b1 pk_top (fun _ _ => ?_)
  refine pk_ite ?_ ?_
  · exact (QQ_X12_tagCost_42 h)
  · refine pk_b1 pk_top (fun _ _ => ?_)
    refine pk_ite ?_ ?_
    · exact (QQ_X12_tagCost_42 h)
    · refine pk_b1 pk_top (fun _ _ => ?_)
      refine pk_ite ?_ ?_
      · exact (QQ_X12_tagCost_42 h)
      · refine pk_b2 (QQ_X12_tagCostOf h) (fun _ s_1 (h_2 : KQw z s_1) => ?_)
        exact pk_some h_2
theorem QQ_X12_span_20 {z : mG} {s : mG} (h : KQw z s) : pk (F_X12_span_20 s) (fun τ => KQw z τ.2) := by
  unfold F_X12_span_20
  exact pk_some h
theorem QQ_X12_span_103 {z : mG} {x4 : Int32} {s : mG} (h : KQw z s) : pk (F_X12_span_103 x4 s) (fun τ => KQw z τ.2) := by
  unfold F_X12_span_103
  exact pk_some h
theorem QQ_X12_span_87 {z : mG} {x1 : Int32} {x2 : Int32} {x3 : Int32} {x4 : Int32} {x5 : Int32} {s : mG} (h : KQw z s) : pk (F_X12_span_87 x1 x2 x3 x4 x5 s) (se (fun τ => KQw z τ.2.2.2.2.2) (fun τ => KQw z τ.2)) := by
  unfold F_X12_span_87
  exact pk_some h
theorem QQ_X12_span_80 {z : mG} {x1 : Int32} {x2 : Int32} {x5 : Int32} {x6 : Int32} {s : mG} (h : KQw z s) : pk (F_X12_span_80 x1 x2 x5 x6 s) (se (fun τ => KQw z τ.2.2.2.2.2) (fun τ => KQw z τ.2)) := by
  unfold F_X12_span_80
  exact (QQ_X12_span_87 h)
theorem QQ_X12_span_B34 {z : mG} {x1 : Int32} {x2 : Int32} {x3 : Int32} {x4 : Int32} {x5 : Int32} {s : mG} (h : KQw z s) : pk (F_X12_span_B34 x1 x2 x3 x4 x5 s) (se (fun τ => KQw z τ.2.2.2.2.2) (fun τ => KQw z τ.2)) := by
  unfold F_X12_span_B34
  refine pk_ite ?_ ?_
  · refine pk_ite ?_ ?_
    · refine pk_b1r ?_
      exact (QQ_X12_span_103 h)
    · refine pk_ite ?_ ?_
      · refine pk_b1r ?_
        exact (QQ_X12_span_103 h)
      · exact pk_some h
  · refine pk_b1 pk_top (fun _ _ => ?_)
    refine pk_ite ?_ ?_
    · exact (QQ_X12_span_87 h)
    · refine pk_ite ?_ ?_
      · exact (QQ_X12_span_80 h)
      · refine pk_ite ?_ ?_
        · exact (QQ_X12_span_80 h)
        · exact (QQ_X12_span_87 h)
theorem QQ_X12_span_L34 {z : mG} {x1 : Int32} {x2 : Int32} {x3 : Int32} {x4 : Int32} {x5 : Int32} {s : mG} (h : KQw z s) : pk (F_X12_span_L34 x1 x2 x3 x4 x5 s) (fun τ => KQw z τ.2) := by
  unfold F_X12_span_L34
  refine pk_whl (fun v => KQw z v.2.2.2.2.2) h (fun v hv => ?_)
  obtain ⟨y0, y1, y2, y3, y4, y5⟩ := v
  exact QQ_X12_span_B34 hv
theorem QQ_X12_span {z : mG} {a1 : Int32} {a2 : Int32} {s : mG} (h : KQw z s) : pk (F_X12_span a1 a2 s) (fun τ => KQw z τ.2) := by
  unfold F_X12_span
  refine pk_b1 pk_top (fun _ _ => ?_)
  refine pk_ite ?_ ?_
  · exact (QQ_X12_span_20 h)
  · refine pk_b1 pk_top (fun _ _ => ?_)
    refine pk_ite ?_ ?_
    · exact (QQ_X12_span_20 h)
    · refine pk_b1 (QQ_X12_laysChances h) (fun s_1 (h_2 : KQw z s_1) => ?_)
      exact (QQ_X12_span_L34 h_2)
theorem QQ_X12_laysOthers_115 {z : mG} {x1 : Int32} {x2 : Int32} {s : mG} (h : KQw z s) : pk (F_X12_laysOthers_115 x1 x2 s) (se (fun τ => KQw z τ.2.2) (fun τ => KQw z τ)) := by
  unfold F_X12_laysOthers_115
  exact pk_some h
theorem QQ_X12_laysOthers_B63 {z : mG} {x1 : Int32} {x2 : Int32} {x3 : Int64} {x5 : Int32} {s : mG} (h : KQw z s) : pk (F_X12_laysOthers_B63 x1 x2 x3 x5 s) (se (fun τ => KQw z τ.2.2.2.2) (se (fun τ => KQw z τ.2.2) (fun τ => KQw z τ))) := by
  unfold F_X12_laysOthers_B63
  refine pk_ite ?_ ?_
  · refine pk_b1r ?_
    exact (QQ_X12_laysOthers_115 h)
  · refine pk_nn ?_
    refine pk_nn ?_
    refine pk_nn ?_
    extract_lets +onlyGivenNames s_1
    have h_2 : KQw z s_1 := h
    clear_value s_1
    exact pk_some h_2
theorem QQ_X12_laysOthers_L63 {z : mG} {x1 : Int32} {x2 : Int32} {x3 : Int64} {x5 : Int32} {s : mG} (h : KQw z s) : pk (F_X12_laysOthers_L63 x1 x2 x3 x5 s) (se (fun τ => KQw z τ.2.2) (fun τ => KQw z τ)) := by
  unfold F_X12_laysOthers_L63
  refine pk_whl (fun v => KQw z v.2.2.2.2) h (fun v hv => ?_)
  obtain ⟨y0, y1, y2, y3, y4⟩ := v
  exact QQ_X12_laysOthers_B63 hv
theorem QQ_X12_laysOthers_B34 {z : mG} {x1 : Int32} {x2 : Int32} {s : mG} (h : KQw z s) : pk (F_X12_laysOthers_B34 x1 x2 s) (se (fun τ => KQw z τ.2.2) (fun τ => KQw z τ)) := by
  unfold F_X12_laysOthers_B34
  refine pk_ite ?_ ?_
  · exact pk_some h
  · refine pk_ite ?_ ?_
    · exact (QQ_X12_laysOthers_115 h)
    · refine pk_b2 (QQ_X12_sureOf h) (fun _ s_1 (h_2 : KQw z s_1) => ?_)
      exact (QQ_X12_laysOthers_L63 h_2)
theorem QQ_X12_laysOthers_L34 {z : mG} {x1 : Int32} {x2 : Int32} {s : mG} (h : KQw z s) : pk (F_X12_laysOthers_L34 x1 x2 s) (fun τ => KQw z τ) := by
  unfold F_X12_laysOthers_L34
  refine pk_whl (fun v => KQw z v.2.2) h (fun v hv => ?_)
  obtain ⟨y0, y1, y2⟩ := v
  exact QQ_X12_laysOthers_B34 hv
theorem QQ_X12_laysOthers_25 {z : mG} {x1 : Int32} {x2 : Int32} {y1 : Int32} {y2 : Int64} {s : mG} (h : KQw z s) : pk (F_X12_laysOthers_25 x1 x2 y1 y2 s) (se (fun τ => KQw z τ.2.2) (fun τ => KQw z τ)) := by
  unfold F_X12_laysOthers_25
  refine pk_nn ?_
  extract_lets +onlyGivenNames s_1
  have h_2 : KQw z s_1 := h
  clear_value s_1
  exact pk_some h_2
theorem QQ_X12_laysOthers_B2 {z : mG} {x1 : Int32} {x2 : Int32} {s : mG} (h : KQw z s) : pk (F_X12_laysOthers_B2 x1 x2 s) (se (fun τ => KQw z τ.2.2) (fun τ => KQw z τ)) := by
  unfold F_X12_laysOthers_B2
  refine pk_ite ?_ ?_
  · refine pk_b1r ?_
    exact (QQ_X12_laysOthers_L34 h)
  · refine pk_ite ?_ ?_
    · exact (QQ_X12_laysOthers_25 h)
    · exact (QQ_X12_laysOthers_25 h)
theorem QQ_X12_laysOthers_L2 {z : mG} {x1 : Int32} {x2 : Int32} {s : mG} (h : KQw z s) : pk (F_X12_laysOthers_L2 x1 x2 s) (fun τ => KQw z τ) := by
  unfold F_X12_laysOthers_L2
  refine pk_whl (fun v => KQw z v.2.2) h (fun v hv => ?_)
  obtain ⟨y0, y1, y2⟩ := v
  exact QQ_X12_laysOthers_B2 hv
theorem QQ_X12_laysOthers {z : mG} {a1 : Int32} {s : mG} (h : KQw z s) : pk (F_X12_laysOthers a1 s) (fun τ => KQw z τ) := by
  unfold F_X12_laysOthers
  exact (QQ_X12_laysOthers_L2 h)
theorem QQ_X12_counted_18 {z : mG} {s : mG} (h : KQw z s) : pk (F_X12_counted_18 s) (fun τ => KQw z τ.2) := by
  unfold F_X12_counted_18
  exact pk_some h
theorem QQ_X12_counted {z : mG} {a1 : Int32} {a2 : Int32} {s : mG} (h : KQw z s) : pk (F_X12_counted a1 a2 s) (fun τ => KQw z τ.2) := by
  unfold F_X12_counted
  refine pk_b1 pk_top (fun _ _ => ?_)
  refine pk_ite ?_ ?_
  · exact (QQ_X12_counted_18 h)
  · refine pk_b1 pk_top (fun _ _ => ?_)
    refine pk_ite ?_ ?_
    · exact (QQ_X12_counted_18 h)
    · refine pk_b1 (QQ_X12_laysOthers h) (fun s_1 (h_2 : KQw z s_1) => ?_)
      refine pk_b2 (QQ_X12_sureOf h_2) (fun _ s_3 (h_4 : KQw z s_3) => ?_)
      refine pk_nn ?_
      extract_lets +onlyGivenNames v_5
      clear_value v_5
      refine pk_nn ?_
      extract_lets +onlyGivenNames v_6
      clear_value v_6
      refine pk_ite ?_ ?_
      · exact pk_some h_4
      · refine pk_nn ?_
        extract_lets +onlyGivenNames v_7
        clear_value v_7
        exact pk_some h_4
theorem QQ_X12_visit_17 {z : mG} {s : mG} (h : KQw z s) : pk (F_X12_visit_17 s) (fun τ => KQw z τ.2) := by
  unfold F_X12_visit_17
  exact pk_some h
theorem QQ_X12_visit_154 {z : mG} {x1 : Int32} {x2 : Int32} {x3 : Int64} {x5 : Int32} {x6 : Int64} {x8 : Int32} {s : mG} (h : KQw z s) : pk (F_X12_visit_154 x1 x2 x3 x5 x6 x8 s) (se (fun τ => KQw z τ.2.2.2.2.2.2) (fun τ => KQw z τ.2)) := by
  unfold F_X12_visit_154
  exact pk_some h
theorem QQ_X12_visit_B34 {z : mG} {x1 : Int32} {x2 : Int32} {x3 : Int64} {x5 : Int32} {x6 : Int64} {x8 : Int32} {s : mG} (h : KQw z s) : pk (F_X12_visit_B34 x1 x2 x3 x5 x6 x8 s) (se (fun τ => KQw z τ.2.2.2.2.2.2) (fun τ => KQw z τ.2)) := by
  unfold F_X12_visit_B34
  refine pk_ite ?_ ?_
  · refine pk_ite ?_ ?_
    · exact pk_some h
    · exact pk_some h
  · refine pk_nn ?_
    refine pk_b2 (QQ_X12_saysIn h) (fun _ s_1 (h_2 : KQw z s_1) => ?_)
    refine pk_nn ?_
    refine pk_b2 (QQ_X12_saysIn h_2) (fun _ s_3 (h_4 : KQw z s_3) => ?_)
    extract_lets +onlyGivenNames v_5
    clear_value v_5
    refine pk_ite ?_ ?_
    · exact (QQ_X12_visit_154 h_4)
    · exact (QQ_X12_visit_154 h_4)
theorem QQ_X12_visit_L34 {z : mG} {x1 : Int32} {x2 : Int32} {x3 : Int64} {x5 : Int32} {x6 : Int64} {x8 : Int32} {s : mG} (h : KQw z s) : pk (F_X12_visit_L34 x1 x2 x3 x5 x6 x8 s) (fun τ => KQw z τ.2) := by
  unfold F_X12_visit_L34
  refine pk_whl (fun v => KQw z v.2.2.2.2.2.2) h (fun v hv => ?_)
  obtain ⟨y0, y1, y2, y3, y4, y5, y6⟩ := v
  exact QQ_X12_visit_B34 hv
theorem QQ_X12_visit {z : mG} {a1 : Int32} {a2 : Int32} {s : mG} (h : KQw z s) : pk (F_X12_visit a1 a2 s) (fun τ => KQw z τ.2) := by
  unfold F_X12_visit
  refine pk_b1 pk_top (fun _ _ => ?_)
  refine pk_ite ?_ ?_
  · exact (QQ_X12_visit_17 h)
  · refine pk_b1 pk_top (fun _ _ => ?_)
    refine pk_ite ?_ ?_
    · exact (QQ_X12_visit_17 h)
    · refine pk_b2 (QQ_X12_sureOf h) (fun _ s_1 (h_2 : KQw z s_1) => ?_)
      exact (QQ_X12_visit_L34 h_2)
theorem QQ_X12_movesIn_36 {z : mG} {x1 : Int32} {x3 : Int32} {y0 : Int32} {y2 : Int32} {s : mG} (h : KQw z s) : pk (F_X12_movesIn_36 x1 x3 y0 y2 s) (se (fun τ => KQw z τ.2.2.2) (fun τ => KQw z τ.2)) := by
  unfold F_X12_movesIn_36
  refine pk_nn ?_
  refine pk_b2 (QQ_X12_saysIn h) (fun _ s_1 (h_2 : KQw z s_1) => ?_)
  exact pk_some h_2
theorem QQ_X12_movesIn_B4 {z : mG} {x1 : Int32} {x2 : Int32} {x3 : Int32} {s : mG} (h : KQw z s) : pk (F_X12_movesIn_B4 x1 x2 x3 s) (se (fun τ => KQw z τ.2.2.2) (fun τ => KQw z τ.2)) := by
  unfold F_X12_movesIn_B4
  refine pk_ite ?_ ?_
  · exact pk_some h
  · refine pk_nn ?_
    refine pk_ite ?_ ?_
    · exact (QQ_X12_movesIn_36 h)
    · exact (QQ_X12_movesIn_36 h)
theorem QQ_X12_movesIn_L4 {z : mG} {x1 : Int32} {x2 : Int32} {x3 : Int32} {s : mG} (h : KQw z s) : pk (F_X12_movesIn_L4 x1 x2 x3 s) (fun τ => KQw z τ.2) := by
  unfold F_X12_movesIn_L4
  refine pk_whl (fun v => KQw z v.2.2.2) h (fun v hv => ?_)
  obtain ⟨y0, y1, y2, y3⟩ := v
  exact QQ_X12_movesIn_B4 hv
theorem QQ_X12_movesIn {z : mG} {a1 : Int32} {s : mG} (h : KQw z s) : pk (F_X12_movesIn a1 s) (fun τ => KQw z τ.2) := by
  unfold F_X12_movesIn
  exact (QQ_X12_movesIn_L4 h)
theorem QQ_X12_expect {z : mG} {s : mG} (h : KQw z s) : pk (F_X12_expect s) (fun τ => KQw z τ.2) := by
  unfold F_X12_expect
  refine pk_b2 (QQ_X12_movesIn h) (fun _ s_1 (h_2 : KQw z s_1) => ?_)
  exact pk_some h_2
theorem QQ_X12_busy_57 {z : mG} {x1 : Int32} {x2 : Int32} {x3 : Int32} {x4 : Int32} {s : mG} (h : KQw z s) : pk (F_X12_busy_57 x1 x2 x3 x4 s) (se (fun τ => KQw z τ.2.2.2.2) (fun τ => KQw z τ.2)) := by
  unfold F_X12_busy_57
  exact pk_some h
theorem QQ_X12_busy_B29 {z : mG} {x1 : Int32} {x2 : Int32} {x3 : Int32} {x4 : Int32} {s : mG} (h : KQw z s) : pk (F_X12_busy_B29 x1 x2 x3 x4 s) (se (fun τ => KQw z τ.2.2.2.2) (fun τ => KQw z τ.2)) := by
  unfold F_X12_busy_B29
  refine pk_ite ?_ ?_
  · refine pk_ite ?_ ?_
    · exact pk_some h
    · refine pk_b2 (QQ_X12_movesIn h) (fun _ s_1 (h_2 : KQw z s_1) => ?_)
      exact pk_some h_2
  · refine pk_b2 (QQ_X12_movesIn h) (fun _ s_3 (h_4 : KQw z s_3) => ?_)
    refine pk_b2 (QQ_X12_movesIn h_4) (fun _ s_5 (h_6 : KQw z s_5) => ?_)
    refine pk_ite ?_ ?_
    · exact (QQ_X12_busy_57 h_6)
    · exact (QQ_X12_busy_57 h_6)
theorem QQ_X12_busy_L29 {z : mG} {x1 : Int32} {x2 : Int32} {x3 : Int32} {x4 : Int32} {s : mG} (h : KQw z s) : pk (F_X12_busy_L29 x1 x2 x3 x4 s) (fun τ => KQw z τ.2) := by
  unfold F_X12_busy_L29
  refine pk_whl (fun v => KQw z v.2.2.2.2) h (fun v hv => ?_)
  obtain ⟨y0, y1, y2, y3, y4⟩ := v
  exact QQ_X12_busy_B29 hv
theorem QQ_X12_busy {z : mG} {a1 : Int32} {s : mG} (h : KQw z s) : pk (F_X12_busy a1 s) (fun τ => KQw z τ.2) := by
  unfold F_X12_busy
  refine pk_b1 pk_top (fun _ _ => ?_)
  refine pk_ite ?_ ?_
  · exact pk_some h
  · extract_lets +onlyGivenNames v_1
    clear_value v_1
    exact (QQ_X12_busy_L29 h)
theorem QQ_X12_lack_80 {z : mG} {x1 : Int32} {x2 : Int32} {x3 : Int32} {x4 : Int64} {x6 : Int32} {s : mG} (h : KQw z s) : pk (F_X12_lack_80 x1 x2 x3 x4 x6 s) (se (fun τ => KQw z τ.2.2.2.2.2) (fun τ => KQw z τ.2)) := by
  unfold F_X12_lack_80
  exact pk_some h
theorem QQ_X12_lack_B21 {z : mG} {x1 : Int32} {x2 : Int32} {x3 : Int32} {x4 : Int64} {x6 : Int32} {s : mG} (h : KQw z s) : pk (F_X12_lack_B21 x1 x2 x3 x4 x6 s) (se (fun τ => KQw z τ.2.2.2.2.2) (fun τ => KQw z τ.2)) := by
  unfold F_X12_lack_B21
  refine pk_ite ?_ ?_
  · refine pk_ite ?_ ?_
    · exact pk_some h
    · refine pk_ite ?_ ?_
      · extract_lets +onlyGivenNames v_1
        clear_value v_1
        exact pk_some h
      · exact pk_some h
  · refine pk_nn ?_
    refine pk_ite ?_ ?_
    · refine pk_nn ?_
      extract_lets +onlyGivenNames v_2
      clear_value v_2
      refine pk_b2 (QQ_X12_sureOf h) (fun _ s_3 (h_4 : KQw z s_3) => ?_)
      extract_lets +onlyGivenNames v_5
      clear_value v_5
      exact (QQ_X12_lack_80 h_4)
    · exact (QQ_X12_lack_80 h)
theorem QQ_X12_lack_L21 {z : mG} {x1 : Int32} {x2 : Int32} {x3 : Int32} {x4 : Int64} {x6 : Int32} {s : mG} (h : KQw z s) : pk (F_X12_lack_L21 x1 x2 x3 x4 x6 s) (fun τ => KQw z τ.2) := by
  unfold F_X12_lack_L21
  refine pk_whl (fun v => KQw z v.2.2.2.2.2) h (fun v hv => ?_)
  obtain ⟨y0, y1, y2, y3, y4, y5⟩ := v
  exact QQ_X12_lack_B21 hv
theorem QQ_X12_lack {z : mG} {a1 : Int32} {s : mG} (h : KQw z s) : pk (F_X12_lack a1 s) (fun τ => KQw z τ.2) := by
  unfold F_X12_lack
  refine pk_b1 pk_top (fun _ _ => ?_)
  refine pk_ite ?_ ?_
  · exact pk_some h
  · exact (QQ_X12_lack_L21 h)
theorem QQ_X12_empty_64 {z : mG} {x1 : Int32} {x4 : Int32} {y0 : Int64} {s : mG} (h : KQw z s) : pk (F_X12_empty_64 x1 x4 y0 s) (se (fun τ => KQw z τ.2.2.2) (fun τ => KQw z τ.2)) := by
  unfold F_X12_empty_64
  exact pk_some h
theorem QQ_X12_empty_B18 {z : mG} {x1 : Int32} {x2 : Int64} {x4 : Int32} {s : mG} (h : KQw z s) : pk (F_X12_empty_B18 x1 x2 x4 s) (se (fun τ => KQw z τ.2.2.2) (fun τ => KQw z τ.2)) := by
  unfold F_X12_empty_B18
  refine pk_ite ?_ ?_
  · exact pk_some h
  · refine pk_nn ?_
    refine pk_ite ?_ ?_
    · refine pk_b2 (QQ_X12_sureOf h) (fun _ s_1 (h_2 : KQw z s_1) => ?_)
      exact (QQ_X12_empty_64 h_2)
    · exact (QQ_X12_empty_64 h)
theorem QQ_X12_empty_L18 {z : mG} {x1 : Int32} {x2 : Int64} {x4 : Int32} {s : mG} (h : KQw z s) : pk (F_X12_empty_L18 x1 x2 x4 s) (fun τ => KQw z τ.2) := by
  unfold F_X12_empty_L18
  refine pk_whl (fun v => KQw z v.2.2.2) h (fun v hv => ?_)
  obtain ⟨y0, y1, y2, y3⟩ := v
  exact QQ_X12_empty_B18 hv
theorem QQ_X12_empty {z : mG} {a1 : Int32} {s : mG} (h : KQw z s) : pk (F_X12_empty a1 s) (fun τ => KQw z τ.2) := by
  unfold F_X12_empty
  refine pk_b1 pk_top (fun _ _ => ?_)
  refine pk_ite ?_ ?_
  · exact pk_some h
  · exact (QQ_X12_empty_L18 h)
theorem QQ_X12_isKnockedAhead_42 {z : mG} {s : mG} (h : KQw z s) : pk (F_X12_isKnockedAhead_42 s) (fun τ => KQw z τ.2) := by
  unfold F_X12_isKnockedAhead_42
  exact pk_some h
theorem QQ_X12_isKnockedAhead_46 {z : mG} {s : mG} (h : KQw z s) : pk (F_X12_isKnockedAhead_46 s) (fun τ => KQw z τ.2) := by
  unfold F_X12_isKnockedAhead_46
  exact pk_some h
theorem QQ_X12_isKnockedAhead {z : mG} {a1 : Int32} {a2 : Int32} {s : mG} (h : KQw z s) : pk (F_X12_isKnockedAhead a1 a2 s) (fun τ => KQw z τ.2) := by
  unfold F_X12_isKnockedAhead
  refine pk_b1 pk_top (fun _ _ => ?_)
  refine pk_b2 (QQ_X12_sureOf h) (fun _ s_1 (h_2 : KQw z s_1) => ?_)
  refine pk_b1 pk_top (fun _ _ => ?_)
  refine pk_b2 (QQ_X12_sureOf h_2) (fun _ s_3 (h_4 : KQw z s_3) => ?_)
  refine pk_ite ?_ ?_
  · exact (QQ_X12_isKnockedAhead_42 h_4)
  · refine pk_ite ?_ ?_
    · refine pk_ite ?_ ?_
      · exact (QQ_X12_isKnockedAhead_46 h_4)
      · exact (QQ_X12_isKnockedAhead_42 h_4)
    · exact (QQ_X12_isKnockedAhead_46 h_4)
theorem QQ_X12_knocks_52 {z : mG} {x1 : Int32} {x2 : Int32} {x4 : Int32} {y0 : Int32} {y1 : Int32} {s : mG} (h : KQw z s) : pk (F_X12_knocks_52 x1 x2 x4 y0 y1 s) (se (fun τ => KQw z τ.2.2.2.2) (se (fun τ => KQw z τ.2.2) (fun τ => KQw z τ.2))) := by
  unfold F_X12_knocks_52
  exact pk_some h
theorem QQ_X12_knocks_51 {z : mG} {x1 : Int32} {x2 : Int32} {x4 : Int32} {y0 : Int32} {s : mG} (h : KQw z s) : pk (F_X12_knocks_51 x1 x2 x4 y0 s) (se (fun τ => KQw z τ.2.2.2.2) (se (fun τ => KQw z τ.2.2) (fun τ => KQw z τ.2))) := by
  unfold F_X12_knocks_51
  exact (QQ_X12_knocks_52 h)
theorem QQ_X12_knocks_B18 {z : mG} {x1 : Int32} {x2 : Int32} {x3 : Int32} {x4 : Int32} {s : mG} (h : KQw z s) : pk (F_X12_knocks_B18 x1 x2 x3 x4 s) (se (fun τ => KQw z τ.2.2.2.2) (se (fun τ => KQw z τ.2.2) (fun τ => KQw z τ.2))) := by
  unfold F_X12_knocks_B18
  refine pk_ite ?_ ?_
  · refine pk_ite ?_ ?_
    · exact pk_some h
    · exact pk_some h
  · refine pk_ite ?_ ?_
    · exact (QQ_X12_knocks_51 h)
    · refine pk_b2 (QQ_X12_isKnockedAhead h) (fun _ s_1 (h_2 : KQw z s_1) => ?_)
      refine pk_ite ?_ ?_
      · exact (QQ_X12_knocks_51 h_2)
      · exact (QQ_X12_knocks_52 h_2)
theorem QQ_X12_knocks_L18 {z : mG} {x1 : Int32} {x2 : Int32} {x3 : Int32} {x4 : Int32} {s : mG} (h : KQw z s) : pk (F_X12_knocks_L18 x1 x2 x3 x4 s) (se (fun τ => KQw z τ.2.2) (fun τ => KQw z τ.2)) := by
  unfold F_X12_knocks_L18
  refine pk_whl (fun v => KQw z v.2.2.2.2) h (fun v hv => ?_)
  obtain ⟨y0, y1, y2, y3, y4⟩ := v
  exact QQ_X12_knocks_B18 hv
theorem QQ_X12_knocks_B2 {z : mG} {x1 : Int32} {x2 : Int32} {s : mG} (h : KQw z s) : pk (F_X12_knocks_B2 x1 x2 s) (se (fun τ => KQw z τ.2.2) (fun τ => KQw z τ.2)) := by
  unfold F_X12_knocks_B2
  refine pk_ite ?_ ?_
  · exact pk_some h
  · exact (QQ_X12_knocks_L18 h)
theorem QQ_X12_knocks_L2 {z : mG} {x1 : Int32} {x2 : Int32} {s : mG} (h : KQw z s) : pk (F_X12_knocks_L2 x1 x2 s) (fun τ => KQw z τ.2) := by
  unfold F_X12_knocks_L2
  refine pk_whl (fun v => KQw z v.2.2) h (fun v hv => ?_)
  obtain ⟨y0, y1, y2⟩ := v
  exact QQ_X12_knocks_B2 hv
theorem QQ_X12_knocks {z : mG} {a1 : Int32} {s : mG} (h : KQw z s) : pk (F_X12_knocks a1 s) (fun τ => KQw z τ.2) := by
  unfold F_X12_knocks
  exact (QQ_X12_knocks_L2 h)
theorem QQ_X12_room_67 {z : mG} {s : mG} (h : KQw z s) : pk (F_X12_room_67 s) (fun τ => KQw z τ.2) := by
  unfold F_X12_room_67
  exact pk_some h
theorem QQ_X12_room {z : mG} {a1 : Int32} {a2 : Int32} {a3 : Int32} {a4 : Int32} {s : mG} (h : KQw z s) : pk (F_X12_room a1 a2 a3 a4 s) (fun τ => KQw z τ.2) := by
  unfold F_X12_room
  refine pk_ite ?_ ?_
  · extract_lets +onlyGivenNames s_1
    have h_2 : KQw z s_1 := KQw_mu h (Or.inl (by decide))
    clear_value s_1
    exact pk_some h_2
  · refine pk_b1 pk_top (fun _ _ => ?_)
    refine pk_ite ?_ ?_
    · exact (QQ_X12_room_67 h)
    · refine pk_b1 pk_top (fun _ _ => ?_)
      refine pk_ite ?_ ?_
      · exact (QQ_X12_room_67 h)
      · refine pk_b1 pk_top (fun _ _ => ?_)
        refine pk_ite ?_ ?_
        · exact (QQ_X12_room_67 h)
        · refine pk_b1 pk_top (fun _ _ => ?_)
          refine pk_ite ?_ ?_
          · exact (QQ_X12_room_67 h)
          · refine pk_ite ?_ ?_
            · exact (QQ_X12_room_67 h)
            · extract_lets +onlyGivenNames v_3
              clear_value v_3
              refine pk_nn ?_
              extract_lets +onlyGivenNames s_4
              have h_5 : KQw z s_4 := KQw_mu h (Or.inl (by decide))
              clear_value s_4
              refine pk_nn ?_
              extract_lets +onlyGivenNames s_6
              have h_7 : KQw z s_6 := KQw_mu h_5 (Or.inl (by decide))
              clear_value s_6
              refine pk_nn ?_
              extract_lets +onlyGivenNames s_8
              have h_9 : KQw z s_8 := KQw_mu h_7 (Or.inl (by decide))
              clear_value s_8
              refine pk_nn ?_
              extract_lets +onlyGivenNames s_10
              have h_11 : KQw z s_10 := KQw_mu h_9 (Or.inl (by decide))
              clear_value s_10
              extract_lets +onlyGivenNames s_12
              have h_13 : KQw z s_12 := KQw_mu h_11 (Or.inl (by decide))
              clear_value s_12
              exact pk_some h_13
theorem QQ_X12_laysFloors_B22 {z : mG} {x1 : Int32} {s : mG} (h : KQw z s) : pk (F_X12_laysFloors_B22 x1 s) (se (fun τ => KQw z τ.2) (fun τ => KQw z τ)) := by
  unfold F_X12_laysFloors_B22
  refine pk_ite ?_ ?_
  · exact pk_some h
  · refine pk_nn ?_
    extract_lets +onlyGivenNames v_1
    clear_value v_1
    refine pk_nn ?_
    refine pk_b2 (QQ_X12_sureOf h) (fun _ s_2 (h_3 : KQw z s_2) => ?_)
    refine pk_nn ?_
    extract_lets +onlyGivenNames s_4
    have h_5 : KQw z s_4 := h_3
    clear_value s_4
    exact pk_some h_5
theorem QQ_X12_laysFloors_L22 {z : mG} {x1 : Int32} {s : mG} (h : KQw z s) : pk (F_X12_laysFloors_L22 x1 s) (fun τ => KQw z τ) := by
  unfold F_X12_laysFloors_L22
  refine pk_whl (fun v => KQw z v.2) h (fun v hv => ?_)
  obtain ⟨y0, y1⟩ := v
  exact QQ_X12_laysFloors_B22 hv
theorem QQ_X12_laysFloors_B2 {z : mG} {x1 : Int32} {s : mG} (h : KQw z s) : pk (F_X12_laysFloors_B2 x1 s) (se (fun τ => KQw z τ.2) (fun τ => KQw z τ)) := by
  unfold F_X12_laysFloors_B2
  refine pk_ite ?_ ?_
  · refine pk_b1r ?_
    exact (QQ_X12_laysFloors_L22 h)
  · refine pk_nn ?_
    extract_lets +onlyGivenNames s_1
    have h_2 : KQw z s_1 := h
    clear_value s_1
    exact pk_some h_2
theorem QQ_X12_laysFloors_L2 {z : mG} {x1 : Int32} {s : mG} (h : KQw z s) : pk (F_X12_laysFloors_L2 x1 s) (fun τ => KQw z τ) := by
  unfold F_X12_laysFloors_L2
  refine pk_whl (fun v => KQw z v.2) h (fun v hv => ?_)
  obtain ⟨y0, y1⟩ := v
  exact QQ_X12_laysFloors_B2 hv
theorem QQ_X12_laysFloors {z : mG} {s : mG} (h : KQw z s) : pk (F_X12_laysFloors s) (fun τ => KQw z τ) := by
  unfold F_X12_laysFloors
  exact (QQ_X12_laysFloors_L2 h)
theorem QQ_X12_searches_169 {z : mG} {rec : Int32 → Int32 → Int32 → Int64 → mG → Option (mG)} {x1 : Int32} {x2 : Int32} {x3 : Int32} {x4 : Int64} {x6 : Int32} {s : mG} (hrec : ∀ (b0 : Int32) (b1 : Int32) (b2 : Int32) (b3 : Int64) (r : mG), KQw z r → pk (rec b0 b1 b2 b3 r) (fun τ => KQw z τ)) (h : KQw z s) : pk (F_X12_searches_169 rec x1 x2 x3 x4 x6 s) (se (fun τ => KQw z τ.2.2.2.2.2) (fun τ => KQw z τ)) := by
  unfold F_X12_searches_169
  exact pk_some h
theorem QQ_X12_searches_120 {z : mG} {rec : Int32 → Int32 → Int32 → Int64 → mG → Option (mG)} {x1 : Int32} {x2 : Int32} {x3 : Int32} {x4 : Int64} {x6 : Int32} {x7 : Int32} {y0 : Int32} {y1 : Int32} {y2 : Int32} {s : mG} (hrec : ∀ (b0 : Int32) (b1 : Int32) (b2 : Int32) (b3 : Int64) (r : mG), KQw z r → pk (rec b0 b1 b2 b3 r) (fun τ => KQw z τ)) (h : KQw z s) : pk (F_X12_searches_120 rec x1 x2 x3 x4 x6 x7 y0 y1 y2 s) (se (fun τ => KQw z τ.2.2.2.2.2) (fun τ => KQw z τ)) := by
  unfold F_X12_searches_120
  refine pk_ite ?_ ?_
  · refine pk_ite ?_ ?_
    · refine pk_nn ?_
      extract_lets +onlyGivenNames s_1
      have h_2 : KQw z s_1 := KQw_mu h (Or.inl (by decide))
      clear_value s_1
      refine pk_nn ?_
      refine pk_b1 (hrec _ _ _ _ _ h_2) (fun s_3 (h_4 : KQw z s_3) => ?_)
      exact (QQ_X12_searches_169 hrec h_4)
    · exact (QQ_X12_searches_169 hrec h)
  · exact (QQ_X12_searches_169 hrec h)
theorem QQ_X12_searches_93 {z : mG} {rec : Int32 → Int32 → Int32 → Int64 → mG → Option (mG)} {x1 : Int32} {x2 : Int32} {x3 : Int32} {x4 : Int64} {x6 : Int32} {x8 : Int32} {y0 : Int32} {s : mG} (hrec : ∀ (b0 : Int32) (b1 : Int32) (b2 : Int32) (b3 : Int64) (r : mG), KQw z r → pk (rec b0 b1 b2 b3 r) (fun τ => KQw z τ)) (h : KQw z s) : pk (F_X12_searches_93 rec x1 x2 x3 x4 x6 x8 y0 s) (se (fun τ => KQw z τ.2.2.2.2.2.2.2) (se (fun τ => KQw z τ.2.2.2.2.2) (fun τ => KQw z τ))) := by
  unfold F_X12_searches_93
  exact pk_some h
theorem QQ_X12_searches_88 {z : mG} {rec : Int32 → Int32 → Int32 → Int64 → mG → Option (mG)} {x1 : Int32} {x2 : Int32} {x3 : Int32} {x4 : Int64} {x6 : Int32} {x8 : Int32} {s : mG} (hrec : ∀ (b0 : Int32) (b1 : Int32) (b2 : Int32) (b3 : Int64) (r : mG), KQw z r → pk (rec b0 b1 b2 b3 r) (fun τ => KQw z τ)) (h : KQw z s) : pk (F_X12_searches_88 rec x1 x2 x3 x4 x6 x8 s) (se (fun τ => KQw z τ.2.2.2.2.2.2.2) (se (fun τ => KQw z τ.2.2.2.2.2) (fun τ => KQw z τ))) := by
  unfold F_X12_searches_88
  exact (QQ_X12_searches_93 hrec h)
theorem QQ_X12_searches_B65 {z : mG} {rec : Int32 → Int32 → Int32 → Int64 → mG → Option (mG)} {x1 : Int32} {x2 : Int32} {x3 : Int32} {x4 : Int64} {x6 : Int32} {x7 : Int32} {x8 : Int32} {s : mG} (hrec : ∀ (b0 : Int32) (b1 : Int32) (b2 : Int32) (b3 : Int64) (r : mG), KQw z r → pk (rec b0 b1 b2 b3 r) (fun τ => KQw z τ)) (h : KQw z s) : pk (F_X12_searches_B65 rec x1 x2 x3 x4 x6 x7 x8 s) (se (fun τ => KQw z τ.2.2.2.2.2.2.2) (se (fun τ => KQw z τ.2.2.2.2.2) (fun τ => KQw z τ))) := by
  unfold F_X12_searches_B65
  refine pk_ite ?_ ?_
  · refine pk_ite ?_ ?_
    · refine pk_b1r ?_
      exact (QQ_X12_searches_120 hrec h)
    · refine pk_b1r ?_
      exact (QQ_X12_searches_120 hrec h)
  · refine pk_ite ?_ ?_
    · refine pk_nn ?_
      refine pk_ite ?_ ?_
      · exact (QQ_X12_searches_88 hrec h)
      · exact (QQ_X12_searches_93 hrec h)
    · exact (QQ_X12_searches_88 hrec h)
theorem QQ_X12_searches_L65 {z : mG} {rec : Int32 → Int32 → Int32 → Int64 → mG → Option (mG)} {x1 : Int32} {x2 : Int32} {x3 : Int32} {x4 : Int64} {x6 : Int32} {x7 : Int32} {x8 : Int32} {s : mG} (hrec : ∀ (b0 : Int32) (b1 : Int32) (b2 : Int32) (b3 : Int64) (r : mG), KQw z r → pk (rec b0 b1 b2 b3 r) (fun τ => KQw z τ)) (h : KQw z s) : pk (F_X12_searches_L65 rec x1 x2 x3 x4 x6 x7 x8 s) (se (fun τ => KQw z τ.2.2.2.2.2) (fun τ => KQw z τ)) := by
  unfold F_X12_searches_L65
  refine pk_whl (fun v => KQw z v.2.2.2.2.2.2.2) h (fun v hv => ?_)
  obtain ⟨y0, y1, y2, y3, y4, y5, y6, y7⟩ := v
  exact QQ_X12_searches_B65 hrec hv
theorem QQ_X12_searches_B53 {z : mG} {rec : Int32 → Int32 → Int32 → Int64 → mG → Option (mG)} {x1 : Int32} {x2 : Int32} {x3 : Int32} {x4 : Int64} {x6 : Int32} {s : mG} (hrec : ∀ (b0 : Int32) (b1 : Int32) (b2 : Int32) (b3 : Int64) (r : mG), KQw z r → pk (rec b0 b1 b2 b3 r) (fun τ => KQw z τ)) (h : KQw z s) : pk (F_X12_searches_B53 rec x1 x2 x3 x4 x6 s) (se (fun τ => KQw z τ.2.2.2.2.2) (fun τ => KQw z τ)) := by
  unfold F_X12_searches_B53
  refine pk_ite ?_ ?_
  · exact pk_some h
  · exact (QQ_X12_searches_L65 hrec h)
theorem QQ_X12_searches_L53 {z : mG} {rec : Int32 → Int32 → Int32 → Int64 → mG → Option (mG)} {x1 : Int32} {x2 : Int32} {x3 : Int32} {x4 : Int64} {x6 : Int32} {s : mG} (hrec : ∀ (b0 : Int32) (b1 : Int32) (b2 : Int32) (b3 : Int64) (r : mG), KQw z r → pk (rec b0 b1 b2 b3 r) (fun τ => KQw z τ)) (h : KQw z s) : pk (F_X12_searches_L53 rec x1 x2 x3 x4 x6 s) (fun τ => KQw z τ) := by
  unfold F_X12_searches_L53
  refine pk_whl (fun v => KQw z v.2.2.2.2.2) h (fun v hv => ?_)
  obtain ⟨y0, y1, y2, y3, y4, y5⟩ := v
  exact QQ_X12_searches_B53 hrec hv
theorem QQ_X12_searches_50 {z : mG} {rec : Int32 → Int32 → Int32 → Int64 → mG → Option (mG)} {x1 : Int32} {x2 : Int32} {x3 : Int32} {x4 : Int64} {s : mG} (hrec : ∀ (b0 : Int32) (b1 : Int32) (b2 : Int32) (b3 : Int64) (r : mG), KQw z r → pk (rec b0 b1 b2 b3 r) (fun τ => KQw z τ)) (h : KQw z s) : pk (F_X12_searches_50 rec x1 x2 x3 x4 s) (fun τ => KQw z τ) := by
  unfold F_X12_searches_50
  exact (QQ_X12_searches_L53 hrec h)
theorem QQ_X12_searches_B24 {z : mG} {rec : Int32 → Int32 → Int32 → Int64 → mG → Option (mG)} {x1 : Int32} {x2 : Int32} {x3 : Int32} {x4 : Int64} {x6 : Int32} {s : mG} (hrec : ∀ (b0 : Int32) (b1 : Int32) (b2 : Int32) (b3 : Int64) (r : mG), KQw z r → pk (rec b0 b1 b2 b3 r) (fun τ => KQw z τ)) (h : KQw z s) : pk (F_X12_searches_B24 rec x1 x2 x3 x4 x6 s) (se (fun τ => KQw z τ.2.2.2.2.2) (fun τ => KQw z τ)) := by
  unfold F_X12_searches_B24
  refine pk_ite ?_ ?_
  · refine pk_b1r ?_
    exact (QQ_X12_searches_50 hrec h)
  · refine pk_nn ?_
    refine pk_nn ?_
    extract_lets +onlyGivenNames s_1
    have h_2 : KQw z s_1 := KQw_mu h (Or.inl (by decide))
    clear_value s_1
    exact pk_some h_2
theorem QQ_X12_searches_L24 {z : mG} {rec : Int32 → Int32 → Int32 → Int64 → mG → Option (mG)} {x1 : Int32} {x2 : Int32} {x3 : Int32} {x4 : Int64} {x6 : Int32} {s : mG} (hrec : ∀ (b0 : Int32) (b1 : Int32) (b2 : Int32) (b3 : Int64) (r : mG), KQw z r → pk (rec b0 b1 b2 b3 r) (fun τ => KQw z τ)) (h : KQw z s) : pk (F_X12_searches_L24 rec x1 x2 x3 x4 x6 s) (fun τ => KQw z τ) := by
  unfold F_X12_searches_L24
  refine pk_whl (fun v => KQw z v.2.2.2.2.2) h (fun v hv => ?_)
  obtain ⟨y0, y1, y2, y3, y4, y5⟩ := v
  exact QQ_X12_searches_B24 hrec hv
theorem QQ_X12_searches {z : mG} {rec : Int32 → Int32 → Int32 → Int64 → mG → Option (mG)} {a1 : Int32} {a2 : Int32} {a3 : Int32} {a4 : Int64} {s : mG} (hrec : ∀ (b0 : Int32) (b1 : Int32) (b2 : Int32) (b3 : Int64) (r : mG), KQw z r → pk (rec b0 b1 b2 b3 r) (fun τ => KQw z τ)) (h : KQw z s) : pk (F_X12_searches rec a1 a2 a3 a4 s) (fun τ => KQw z τ) := by
  unfold F_X12_searches
  refine pk_ite ?_ ?_
  · exact (QQ_X12_searches_50 hrec h)
  · extract_lets +onlyGivenNames s_1
    have h_2 : KQw z s_1 := h
    clear_value s_1
    extract_lets +onlyGivenNames s_3
    have h_4 : KQw z s_3 := KQw_mu h_2 (Or.inr (by decide))
    clear_value s_3
    exact (QQ_X12_searches_L24 hrec h_4)
theorem QQ_Q_X12_searches {z : mG} : ∀ (n : Nat) (a0 : Int32) (a1 : Int32) (a2 : Int32) (a3 : Int64) (s : mG), KQw z s → pk (Q_X12_searches n a0 a1 a2 a3 s) (fun τ => KQw z τ)
  | 0, _, _, _, _, _, _ => pk_none
  | n + 1, _, _, _, _, _, h => QQ_X12_searches (fun a0 a1 a2 a3 s h => QQ_Q_X12_searches n a0 a1 a2 a3 s h) h
theorem QQ_R_X12_searches {z : mG} {a0 : Int32} {a1 : Int32} {a2 : Int32} {a3 : Int64} {s : mG} (h : KQw z s) : pk (R_X12_searches a0 a1 a2 a3 s) (fun τ => KQw z τ) := QQ_Q_X12_searches 5 a0 a1 a2 a3 s h
theorem QQ_X12_fire_30 {z : mG} {s : mG} (h : KQw z s) : pk (F_X12_fire_30 s) (fun τ => KQw z τ.2) := by
  unfold F_X12_fire_30
  exact pk_some h
theorem QQ_X12_fire_32 {z : mG} {x1 : Int32} {x2 : Int32} {s : mG} (h : KQw z s) : pk (F_X12_fire_32 x1 x2 s) (fun τ => KQw z τ.2) := by
  unfold F_X12_fire_32
  refine pk_b1 (QQ_X12_laysFloors h) (fun s_1 (h_2 : KQw z s_1) => ?_)
  extract_lets +onlyGivenNames s_3
  have h_4 : KQw z s_3 := h_2
  clear_value s_3
  refine pk_b1 (QQ_X12_searches (fun _ _ _ _ _ h => QQ_R_X12_searches h) h_4) (fun s_5 (h_6 : KQw z s_5) => ?_)
  refine pk_ite ?_ ?_
  · extract_lets +onlyGivenNames v_7
    clear_value v_7
    exact pk_some h_6
  · refine pk_ite ?_ ?_
    · exact pk_some h_6
    · refine pk_ite ?_ ?_
      · exact pk_some h_6
      · refine pk_nn ?_
        extract_lets +onlyGivenNames v_8
        clear_value v_8
        exact pk_some h_6
theorem QQ_X12_fire {z : mG} {a1 : Int32} {a2 : Int32} {s : mG} (h : KQw z s) : pk (F_X12_fire a1 a2 s) (fun τ => KQw z τ.2) := by
  unfold F_X12_fire
  refine pk_b1 pk_top (fun _ _ => ?_)
  refine pk_ite ?_ ?_
  · exact (QQ_X12_fire_30 h)
  · refine pk_b1 pk_top (fun _ _ => ?_)
    refine pk_ite ?_ ?_
    · refine pk_b1 pk_top (fun _ _ => ?_)
      refine pk_ite ?_ ?_
      · exact (QQ_X12_fire_30 h)
      · exact (QQ_X12_fire_32 h)
    · exact (QQ_X12_fire_32 h)
theorem QQ_X12_laysDoors_161 {z : mG} {x1 : Int32} {x2 : Int32} {x3 : Int32} {s : mG} (h : KQw z s) : pk (F_X12_laysDoors_161 x1 x2 x3 s) (se (fun τ => KQw z τ.2.2.2) (se (fun τ => KQw z τ.2) (fun τ => KQw z τ))) := by
  unfold F_X12_laysDoors_161
  exact pk_some h
theorem QQ_X12_laysDoors_B45 {z : mG} {x1 : Int32} {x2 : Int32} {x3 : Int32} {s : mG} (h : KQw z s) : pk (F_X12_laysDoors_B45 x1 x2 x3 s) (se (fun τ => KQw z τ.2.2.2) (se (fun τ => KQw z τ.2) (fun τ => KQw z τ))) := by
  unfold F_X12_laysDoors_B45
  refine pk_ite ?_ ?_
  · exact pk_some h
  · refine pk_nn ?_
    refine pk_ite ?_ ?_
    · exact (QQ_X12_laysDoors_161 h)
    · refine pk_nn ?_
      refine pk_b2 (QQ_X12_saysIn h) (fun _ s_1 (h_2 : KQw z s_1) => ?_)
      refine pk_nn ?_
      refine pk_b2 (QQ_X12_saysIn h_2) (fun _ s_3 (h_4 : KQw z s_3) => ?_)
      extract_lets +onlyGivenNames v_5
      clear_value v_5
      refine pk_nn ?_
      refine pk_nn ?_
      extract_lets +onlyGivenNames s_6
      have h_7 : KQw z s_6 := KQw_mu h_4 (Or.inl (by decide))
      clear_value s_6
      extract_lets +onlyGivenNames v_8
      clear_value v_8
      refine pk_nn ?_
      refine pk_nn ?_
      extract_lets +onlyGivenNames s_9
      have h_10 : KQw z s_9 := KQw_mu h_7 (Or.inl (by decide))
      clear_value s_9
      exact (QQ_X12_laysDoors_161 h_10)
theorem QQ_X12_laysDoors_L45 {z : mG} {x1 : Int32} {x2 : Int32} {x3 : Int32} {s : mG} (h : KQw z s) : pk (F_X12_laysDoors_L45 x1 x2 x3 s) (se (fun τ => KQw z τ.2) (fun τ => KQw z τ)) := by
  unfold F_X12_laysDoors_L45
  refine pk_whl (fun v => KQw z v.2.2.2) h (fun v hv => ?_)
  obtain ⟨y0, y1, y2, y3⟩ := v
  exact QQ_X12_laysDoors_B45 hv
theorem QQ_X12_laysDoors_B2 {z : mG} {x1 : Int32} {s : mG} (h : KQw z s) : pk (F_X12_laysDoors_B2 x1 s) (se (fun τ => KQw z τ.2) (fun τ => KQw z τ)) := by
  unfold F_X12_laysDoors_B2
  refine pk_ite ?_ ?_
  · exact pk_some h
  · refine pk_nn ?_
    extract_lets +onlyGivenNames s_1
    have h_2 : KQw z s_1 := KQw_mu h (Or.inl (by decide))
    clear_value s_1
    refine pk_nn ?_
    extract_lets +onlyGivenNames s_3
    have h_4 : KQw z s_3 := KQw_mu h_2 (Or.inl (by decide))
    clear_value s_3
    extract_lets +onlyGivenNames v_5
    clear_value v_5
    exact (QQ_X12_laysDoors_L45 h_4)
theorem QQ_X12_laysDoors_L2 {z : mG} {x1 : Int32} {s : mG} (h : KQw z s) : pk (F_X12_laysDoors_L2 x1 s) (fun τ => KQw z τ) := by
  unfold F_X12_laysDoors_L2
  refine pk_whl (fun v => KQw z v.2) h (fun v hv => ?_)
  obtain ⟨y0, y1⟩ := v
  exact QQ_X12_laysDoors_B2 hv
theorem QQ_X12_laysDoors {z : mG} {s : mG} (h : KQw z s) : pk (F_X12_laysDoors s) (fun τ => KQw z τ) := by
  unfold F_X12_laysDoors
  exact (QQ_X12_laysDoors_L2 h)
theorem QQ_X12_stands_26 {z : mG} {s : mG} (h : KQw z s) : pk (F_X12_stands_26 s) (fun τ => KQw z τ.2) := by
  unfold F_X12_stands_26
  exact pk_some h
theorem QQ_X12_stands_223 {z : mG} {x1 : Int32} {x2 : Int32} {x3 : Int32} {x4 : Int32} {s : mG} (h : KQw z s) : pk (F_X12_stands_223 x1 x2 x3 x4 s) (se (fun τ => KQw z τ.2.2.2.2) (fun τ => KQw z τ.2)) := by
  unfold F_X12_stands_223
  exact pk_some h
theorem QQ_X12_stands_219 {z : mG} {x1 : Int32} {x2 : Int32} {x3 : Int32} {x4 : Int32} {s : mG} (h : KQw z s) : pk (F_X12_stands_219 x1 x2 x3 x4 s) (se (fun τ => KQw z τ.2.2.2.2) (fun τ => KQw z τ.2)) := by
  unfold F_X12_stands_219
  exact (QQ_X12_stands_223 h)
theorem QQ_X12_stands_B161 {z : mG} {x1 : Int32} {x2 : Int32} {x3 : Int32} {x4 : Int32} {s : mG} (h : KQw z s) : pk (F_X12_stands_B161 x1 x2 x3 x4 s) (se (fun τ => KQw z τ.2.2.2.2) (fun τ => KQw z τ.2)) := by
  unfold F_X12_stands_B161
  refine pk_ite ?_ ?_
  · exact pk_some h
  · refine pk_nn ?_
    extract_lets +onlyGivenNames v_1
    clear_value v_1
    refine pk_nn ?_
    extract_lets +onlyGivenNames v_2
    clear_value v_2
    refine pk_ite ?_ ?_
    · exact (QQ_X12_stands_219 h)
    · refine pk_ite ?_ ?_
      · refine pk_ite ?_ ?_
        · exact (QQ_X12_stands_219 h)
        · exact (QQ_X12_stands_223 h)
      · exact (QQ_X12_stands_223 h)
theorem QQ_X12_stands_L161 {z : mG} {x1 : Int32} {x2 : Int32} {x3 : Int32} {x4 : Int32} {s : mG} (h : KQw z s) : pk (F_X12_stands_L161 x1 x2 x3 x4 s) (fun τ => KQw z τ.2) := by
  unfold F_X12_stands_L161
  refine pk_whl (fun v => KQw z v.2.2.2.2) h (fun v hv => ?_)
  obtain ⟨y0, y1, y2, y3, y4⟩ := v
  exact QQ_X12_stands_B161 hv
theorem QQ_X12_stands_157 {z : mG} {x1 : Int32} {x2 : Int32} {y0 : Int32} {s : mG} (h : KQw z s) : pk (F_X12_stands_157 x1 x2 y0 s) (fun τ => KQw z τ.2) := by
  unfold F_X12_stands_157
  exact (QQ_X12_stands_L161 h)
theorem QQ_X12_stands_103 {z : mG} {x1 : Int32} {x2 : Int32} {x3 : Int32} {x4 : Int32} {y1 : Int32} {y2 : Int32} {y3 : Int32} {s : mG} (h : KQw z s) : pk (F_X12_stands_103 x1 x2 x3 x4 y1 y2 y3 s) (se (fun τ => KQw z τ.2.2.2.2) (se (fun τ => KQw z τ.2.2.2) (fun τ => KQw z τ.2))) := by
  unfold F_X12_stands_103
  refine pk_nn ?_
  extract_lets +onlyGivenNames s_1
  have h_2 : KQw z s_1 := KQw_mu h (Or.inl (by decide))
  clear_value s_1
  exact pk_some h_2
theorem QQ_X12_stands_B58 {z : mG} {x1 : Int32} {x2 : Int32} {x3 : Int32} {x4 : Int32} {s : mG} (h : KQw z s) : pk (F_X12_stands_B58 x1 x2 x3 x4 s) (se (fun τ => KQw z τ.2.2.2.2) (se (fun τ => KQw z τ.2.2.2) (fun τ => KQw z τ.2))) := by
  unfold F_X12_stands_B58
  refine pk_ite ?_ ?_
  · exact pk_some h
  · refine pk_nn ?_
    refine pk_ite ?_ ?_
    · exact (QQ_X12_stands_103 h)
    · refine pk_b1 pk_top (fun _ _ => ?_)
      exact (QQ_X12_stands_103 h)
theorem QQ_X12_stands_L58 {z : mG} {x1 : Int32} {x2 : Int32} {x3 : Int32} {x4 : Int32} {s : mG} (h : KQw z s) : pk (F_X12_stands_L58 x1 x2 x3 x4 s) (se (fun τ => KQw z τ.2.2.2) (fun τ => KQw z τ.2)) := by
  unfold F_X12_stands_L58
  refine pk_whl (fun v => KQw z v.2.2.2.2) h (fun v hv => ?_)
  obtain ⟨y0, y1, y2, y3, y4⟩ := v
  exact QQ_X12_stands_B58 hv
theorem QQ_X12_stands_B51 {z : mG} {x1 : Int32} {x2 : Int32} {x3 : Int32} {s : mG} (h : KQw z s) : pk (F_X12_stands_B51 x1 x2 x3 s) (se (fun τ => KQw z τ.2.2.2) (fun τ => KQw z τ.2)) := by
  unfold F_X12_stands_B51
  refine pk_ite ?_ ?_
  · refine pk_ite ?_ ?_
    · refine pk_b1 pk_top (fun _ _ => ?_)
      exact pk_some h
    · refine pk_ite ?_ ?_
      · refine pk_b1r ?_
        exact (QQ_X12_stands_157 h)
      · refine pk_b1r ?_
        exact (QQ_X12_stands_157 h)
  · exact (QQ_X12_stands_L58 h)
theorem QQ_X12_stands_L51 {z : mG} {x1 : Int32} {x2 : Int32} {x3 : Int32} {s : mG} (h : KQw z s) : pk (F_X12_stands_L51 x1 x2 x3 s) (fun τ => KQw z τ.2) := by
  unfold F_X12_stands_L51
  refine pk_whl (fun v => KQw z v.2.2.2) h (fun v hv => ?_)
  obtain ⟨y0, y1, y2, y3⟩ := v
  exact QQ_X12_stands_B51 hv
theorem QQ_X12_stands_28 {z : mG} {x1 : Int32} {x2 : Int32} {s : mG} (h : KQw z s) : pk (F_X12_stands_28 x1 x2 s) (fun τ => KQw z τ.2) := by
  unfold F_X12_stands_28
  refine pk_b1 (QQ_X12_laysDoors h) (fun s_1 (h_2 : KQw z s_1) => ?_)
  extract_lets +onlyGivenNames s_3
  have h_4 : KQw z s_3 := KQw_mu h_2 (Or.inl (by decide))
  clear_value s_3
  extract_lets +onlyGivenNames s_5
  have h_6 : KQw z s_5 := KQw_mu h_4 (Or.inl (by decide))
  clear_value s_5
  exact (QQ_X12_stands_L51 h_6)
theorem QQ_X12_stands {z : mG} {a1 : Int32} {a2 : Int32} {s : mG} (h : KQw z s) : pk (F_X12_stands a1 a2 s) (fun τ => KQw z τ.2) := by
  unfold F_X12_stands
  refine pk_b1 pk_top (fun _ _ => ?_)
  refine pk_ite ?_ ?_
  · exact (QQ_X12_stands_26 h)
  · refine pk_ite ?_ ?_
    · exact (QQ_X12_stands_28 h)
    · refine pk_b1 pk_top (fun _ _ => ?_)
      refine pk_ite ?_ ?_
      · exact (QQ_X12_stands_26 h)
      · exact (QQ_X12_stands_28 h)
theorem QQ_X12_carries_39 {z : mG} {x1 : Int32} {x2 : Int32} {s : mG} (h : KQw z s) : pk (F_X12_carries_39 x1 x2 s) (se (fun τ => KQw z τ.2.2) (fun τ => KQw z τ.2)) := by
  unfold F_X12_carries_39
  exact pk_some h
theorem QQ_X12_carries_37 {z : mG} {x2 : Int32} {s : mG} (h : KQw z s) : pk (F_X12_carries_37 x2 s) (se (fun τ => KQw z τ.2.2) (fun τ => KQw z τ.2)) := by
  unfold F_X12_carries_37
  exact (QQ_X12_carries_39 h)
theorem QQ_X12_carries_B4 {z : mG} {x1 : Int32} {x2 : Int32} {s : mG} (h : KQw z s) : pk (F_X12_carries_B4 x1 x2 s) (se (fun τ => KQw z τ.2.2) (fun τ => KQw z τ.2)) := by
  unfold F_X12_carries_B4
  refine pk_ite ?_ ?_
  · exact pk_some h
  · refine pk_ite ?_ ?_
    · exact (QQ_X12_carries_37 h)
    · refine pk_b2 (QQ_X12_saysNow h) (fun _ s_1 (h_2 : KQw z s_1) => ?_)
      refine pk_b2 (QQ_X12_saysNow h_2) (fun _ s_3 (h_4 : KQw z s_3) => ?_)
      refine pk_ite ?_ ?_
      · exact (QQ_X12_carries_39 h_4)
      · exact (QQ_X12_carries_37 h_4)
theorem QQ_X12_carries_L4 {z : mG} {x1 : Int32} {x2 : Int32} {s : mG} (h : KQw z s) : pk (F_X12_carries_L4 x1 x2 s) (fun τ => KQw z τ.2) := by
  unfold F_X12_carries_L4
  refine pk_whl (fun v => KQw z v.2.2) h (fun v hv => ?_)
  obtain ⟨y0, y1, y2⟩ := v
  exact QQ_X12_carries_B4 hv
theorem QQ_X12_carries {z : mG} {s : mG} (h : KQw z s) : pk (F_X12_carries s) (fun τ => KQw z τ.2) := by
  unfold F_X12_carries
  exact (QQ_X12_carries_L4 h)
theorem QQ_X12_away_29 {z : mG} {s : mG} (h : KQw z s) : pk (F_X12_away_29 s) (fun τ => KQw z τ.2) := by
  unfold F_X12_away_29
  exact pk_some h
theorem QQ_X12_away_B38 {z : mG} {x1 : Int32} {x2 : Int32} {x3 : Int32} {x4 : Int32} {s : mG} (h : KQw z s) : pk (F_X12_away_B38 x1 x2 x3 x4 s) (se (fun τ => KQw z τ.2.2.2.2) (fun τ => KQw z τ.2)) := by
  unfold F_X12_away_B38
  refine pk_ite ?_ ?_
  · exact pk_some h
  · refine pk_nn ?_
    refine pk_b1 pk_top (fun _ _ => ?_)
    refine pk_b2 (QQ_X12_saysIn h) (fun _ s_1 (h_2 : KQw z s_1) => ?_)
    extract_lets +onlyGivenNames v_3
    clear_value v_3
    exact pk_some h_2
theorem QQ_X12_away_L38 {z : mG} {x1 : Int32} {x2 : Int32} {x3 : Int32} {x4 : Int32} {s : mG} (h : KQw z s) : pk (F_X12_away_L38 x1 x2 x3 x4 s) (fun τ => KQw z τ.2) := by
  unfold F_X12_away_L38
  refine pk_whl (fun v => KQw z v.2.2.2.2) h (fun v hv => ?_)
  obtain ⟨y0, y1, y2, y3, y4⟩ := v
  exact QQ_X12_away_B38 hv
theorem QQ_X12_away {z : mG} {a1 : Int32} {a2 : Int32} {s : mG} (h : KQw z s) : pk (F_X12_away a1 a2 s) (fun τ => KQw z τ.2) := by
  unfold F_X12_away
  refine pk_b1 pk_top (fun _ _ => ?_)
  refine pk_ite ?_ ?_
  · exact (QQ_X12_away_29 h)
  · refine pk_nn ?_
    refine pk_ite ?_ ?_
    · exact (QQ_X12_away_29 h)
    · refine pk_b1 pk_top (fun _ _ => ?_)
      refine pk_ite ?_ ?_
      · exact (QQ_X12_away_29 h)
      · exact (QQ_X12_away_L38 h)
theorem QQ_X12_of {z : mG} {a1 : Int32} {a2 : Int32} {s : mG} (h : KQw z s) : pk (F_X12_of a1 a2 s) (fun τ => KQw z τ.2) := by
  unfold F_X12_of
  refine pk_b1 pk_top (fun _ _ => ?_)
  refine pk_ite ?_ ?_
  · exact pk_some h
  · refine pk_ite ?_ ?_
    · refine pk_nn ?_
      extract_lets +onlyGivenNames v_1
      clear_value v_1
      exact pk_some h
    · refine pk_ite ?_ ?_
      · refine pk_nn ?_
        extract_lets +onlyGivenNames v_2
        clear_value v_2
        exact pk_some h
      · refine pk_ite ?_ ?_
        · refine pk_nn ?_
          extract_lets +onlyGivenNames v_3
          clear_value v_3
          exact pk_some h
        · refine pk_ite ?_ ?_
          · refine pk_nn ?_
            extract_lets +onlyGivenNames v_4
            clear_value v_4
            exact pk_some h
          · refine pk_ite ?_ ?_
            · refine pk_nn ?_
              extract_lets +onlyGivenNames v_5
              clear_value v_5
              exact pk_some h
            · refine pk_ite ?_ ?_
              · refine pk_b2 (QQ_X12_sureOf h) (fun _ s_6 (h_7 : KQw z s_6) => ?_)
                exact pk_some h_7
              · refine pk_b1 pk_top (fun _ _ => ?_)
                refine pk_ite ?_ ?_
                · exact pk_some h
                · refine pk_b2 (QQ_X12_saysNow h) (fun _ s_8 (h_9 : KQw z s_8) => ?_)
                  exact pk_some h_9
theorem QQ_X12_image_67 {z : mG} {s : mG} (h : KQw z s) : pk (F_X12_image_67 s) (fun τ => KQw z τ.2) := by
  unfold F_X12_image_67
  extract_lets +onlyGivenNames s_1
  have h_2 : KQw z s_1 := KQw_mu h (Or.inr (by decide))
  clear_value s_1
  exact pk_some h_2
theorem QQ_X12_image_53 {z : mG} {x1 : Int32} {x2 : Int32} {s : mG} (h : KQw z s) : pk (F_X12_image_53 x1 x2 s) (se (fun τ => KQw z τ.2.2) (fun τ => KQw z τ.2)) := by
  unfold F_X12_image_53
  exact pk_some h
theorem QQ_X12_image_B15 {z : mG} {x1 : Int32} {x2 : Int32} {s : mG} (h : KQw z s) : pk (F_X12_image_B15 x1 x2 s) (se (fun τ => KQw z τ.2.2) (fun τ => KQw z τ.2)) := by
  unfold F_X12_image_B15
  refine pk_ite ?_ ?_
  · refine pk_ite ?_ ?_
    · refine pk_b1 (QQ_X12_forgets h) (fun s_1 (h_2 : KQw z s_1) => ?_)
      refine pk_b1r ?_
      exact (QQ_X12_image_67 h_2)
    · refine pk_b1r ?_
      exact (QQ_X12_image_67 h)
  · refine pk_ite ?_ ?_
    · refine pk_nn ?_
      refine pk_nn ?_
      extract_lets +onlyGivenNames s_3
      have h_4 : KQw z s_3 := KQw_mu h (Or.inl (by decide))
      clear_value s_3
      exact (QQ_X12_image_53 h_4)
    · refine pk_nn ?_
      refine pk_nn ?_
      extract_lets +onlyGivenNames s_5
      have h_6 : KQw z s_5 := KQw_mu h (Or.inl (by decide))
      clear_value s_5
      exact (QQ_X12_image_53 h_6)
theorem QQ_X12_image_L15 {z : mG} {x1 : Int32} {x2 : Int32} {s : mG} (h : KQw z s) : pk (F_X12_image_L15 x1 x2 s) (fun τ => KQw z τ.2) := by
  unfold F_X12_image_L15
  refine pk_whl (fun v => KQw z v.2.2) h (fun v hv => ?_)
  obtain ⟨y0, y1, y2⟩ := v
  exact QQ_X12_image_B15 hv
theorem QQ_X12_image_13 {z : mG} {x1 : Int32} {s : mG} (h : KQw z s) : pk (F_X12_image_13 x1 s) (fun τ => KQw z τ.2) := by
  unfold F_X12_image_13
  exact (QQ_X12_image_L15 h)
theorem QQ_X12_image {z : mG} {a1 : Int32} {s : mG} (h : KQw z s) : pk (F_X12_image a1 s) (fun τ => KQw z τ.2) := by
  unfold F_X12_image
  refine pk_ite ?_ ?_
  · refine pk_ite ?_ ?_
    · exact pk_some h
    · exact (QQ_X12_image_13 h)
  · exact (QQ_X12_image_13 h)
end
