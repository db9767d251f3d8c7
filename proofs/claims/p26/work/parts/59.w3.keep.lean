noncomputable section
theorem K_X12_hangsOn_62 {v0 : Int32} {x1 : Int32} {s : mG} (h : KV 88 4 v0 s) : pk (F_X12_hangsOn_62 x1 s) (fun τ => KV 88 4 v0 τ.2) := by
  unfold F_X12_hangsOn_62
  refine pk_b1 pk_top (fun _ _ => ?_)
  refine pk_ite ?_ ?_
  · exact pk_some h
  · exact pk_some h
theorem K_X12_hangsOn_29 {v0 : Int32} {x1 : Int32} {y0 : Int32} {s : mG} (h : KV 88 4 v0 s) : pk (F_X12_hangsOn_29 x1 y0 s) (fun τ => KV 88 4 v0 τ.2) := by
  unfold F_X12_hangsOn_29
  refine pk_nn ?_
  extract_lets +onlyGivenNames v_1
  clear_value v_1
  refine pk_ite ?_ ?_
  · exact (K_X12_hangsOn_62 h)
  · refine pk_b1 pk_top (fun _ _ => ?_)
    refine pk_ite ?_ ?_
    · exact pk_some h
    · exact (K_X12_hangsOn_62 h)
theorem K_X12_hangsOn {v0 : Int32} {a1 : Int32} {a2 : Int32} {a3 : Int32} {s : mG} (h : KV 88 4 v0 s) : pk (F_X12_hangsOn a1 a2 a3 s) (fun τ => KV 88 4 v0 τ.2) := by
  unfold F_X12_hangsOn
  refine pk_b2 (K_X12_draw h) (fun _ s_1 (h_2 : KV 88 4 v0 s_1) => ?_)
  refine pk_ite ?_ ?_
  · refine pk_b2 (K_X12_draw h_2) (fun _ s_3 (h_4 : KV 88 4 v0 s_3) => ?_)
    refine pk_ite ?_ ?_
    · exact (K_X12_hangsOn_29 h_4)
    · exact (K_X12_hangsOn_29 h_4)
  · exact pk_some h_2
theorem K_X12_isMoved_147 {v0 : Int32} {x1 : Int32} {x7 : Int32} {y1 : Int32} {s : mG} (h : KV 88 4 v0 s) : pk (F_X12_isMoved_147 x1 x7 y1 s) (fun τ => KV 88 4 v0 τ.2) := by
  unfold F_X12_isMoved_147
  refine pk_b1 pk_top (fun _ _ => ?_)
  refine pk_b1 (K_X12_notes h) (fun s_1 (h_2 : KV 88 4 v0 s_1) => ?_)
  exact pk_some h_2
theorem K_X12_isMoved_136 {v0 : Int32} {x1 : Int32} {x2 : Int32} {x7 : Int32} {y1 : Int32} {y2 : Int32} {s : mG} (h : KV 88 4 v0 s) : pk (F_X12_isMoved_136 x1 x2 x7 y1 y2 s) (fun τ => KV 88 4 v0 τ.2) := by
  unfold F_X12_isMoved_136
  refine pk_nn ?_
  extract_lets +onlyGivenNames s_1
  have h_2 : KV 88 4 v0 s_1 := KV_mu h (Or.inl (by decide))
  clear_value s_1
  refine pk_ite ?_ ?_
  · exact (K_X12_isMoved_147 h_2)
  · exact (K_X12_isMoved_147 h_2)
theorem K_X12_isMoved_110 {v0 : Int32} {x1 : Int32} {x2 : Int32} {x5 : Int32} {x6 : Int32} {x7 : Int32} {y1 : Int32} {y2 : Int32} {s : mG} (h : KV 88 4 v0 s) : pk (F_X12_isMoved_110 x1 x2 x5 x6 x7 y1 y2 s) (fun τ => KV 88 4 v0 τ.2) := by
  unfold F_X12_isMoved_110
  refine pk_nn ?_
  extract_lets +onlyGivenNames s_1
  have h_2 : KV 88 4 v0 s_1 := KV_mu h (Or.inl (by decide))
  clear_value s_1
  refine pk_ite ?_ ?_
  · refine pk_b2 (K_X12_hangsOn h_2) (fun _ s_3 (h_4 : KV 88 4 v0 s_3) => ?_)
    exact (K_X12_isMoved_136 h_4)
  · exact (K_X12_isMoved_136 h_2)
theorem K_X12_isMoved_92 {v0 : Int32} {x1 : Int32} {x2 : Int32} {x5 : Int32} {x6 : Int32} {y0 : Int32} {s : mG} (h : KV 88 4 v0 s) : pk (F_X12_isMoved_92 x1 x2 x5 x6 y0 s) (fun τ => KV 88 4 v0 τ.2) := by
  unfold F_X12_isMoved_92
  refine pk_ite ?_ ?_
  · exact (K_X12_isMoved_110 h)
  · exact (K_X12_isMoved_110 h)
theorem K_X12_isMoved_30 {v0 : Int32} {x1 : Int32} {x2 : Int32} {y1 : Int32} {s : mG} (h : KV 88 4 v0 s) : pk (F_X12_isMoved_30 x1 x2 y1 s) (fun τ => KV 88 4 v0 τ.2) := by
  unfold F_X12_isMoved_30
  refine pk_b2 (K_X12_saysNow h) (fun _ s_1 (h_2 : KV 88 4 v0 s_1) => ?_)
  refine pk_b2 (K_X12_saysNow h_2) (fun _ s_3 (h_4 : KV 88 4 v0 s_3) => ?_)
  refine pk_b2 (K_X12_saysNow h_4) (fun _ s_5 (h_6 : KV 88 4 v0 s_5) => ?_)
  refine pk_b2 (K_X12_saysNow h_6) (fun _ s_7 (h_8 : KV 88 4 v0 s_7) => ?_)
  refine pk_b2 (K_X12_draw h_8) (fun _ s_9 (h_10 : KV 88 4 v0 s_9) => ?_)
  refine pk_ite ?_ ?_
  · refine pk_b2 (K_X12_draw h_10) (fun _ s_11 (h_12 : KV 88 4 v0 s_11) => ?_)
    refine pk_ite ?_ ?_
    · exact (K_X12_isMoved_92 h_12)
    · exact (K_X12_isMoved_92 h_12)
  · exact pk_some h_10
theorem K_X12_isMoved_17 {v0 : Int32} {x1 : Int32} {y0 : Int32} {s : mG} (h : KV 88 4 v0 s) : pk (F_X12_isMoved_17 x1 y0 s) (fun τ => KV 88 4 v0 τ.2) := by
  unfold F_X12_isMoved_17
  refine pk_ite ?_ ?_
  · exact (K_X12_isMoved_30 h)
  · exact (K_X12_isMoved_30 h)
theorem K_X12_isMoved {v0 : Int32} {a1 : Int32} {s : mG} (h : KV 88 4 v0 s) : pk (F_X12_isMoved a1 s) (fun τ => KV 88 4 v0 τ.2) := by
  unfold F_X12_isMoved
  refine pk_nn ?_
  refine pk_ite ?_ ?_
  · exact (K_X12_isMoved_17 h)
  · exact (K_X12_isMoved_17 h)
theorem K_X12_anHour_65 {v0 : Int32} {x2 : Int32} {y0 : Int32} {y1 : Int32} {s : mG} (h : KV 88 4 v0 s) : pk (F_X12_anHour_65 x2 y0 y1 s) (se (fun τ => KV 88 4 v0 τ.2.2) (fun τ => KV 88 4 v0 τ.2)) := by
  unfold F_X12_anHour_65
  exact pk_some h
theorem K_X12_anHour_54 {v0 : Int32} {x1 : Int32} {x2 : Int32} {x3 : Int32} {y1 : Int32} {y2 : Int32} {s : mG} (h : KV 88 4 v0 s) : pk (F_X12_anHour_54 x1 x2 x3 y1 y2 s) (se (fun τ => KV 88 4 v0 τ.2.2) (fun τ => KV 88 4 v0 τ.2)) := by
  unfold F_X12_anHour_54
  refine pk_nn ?_
  extract_lets +onlyGivenNames s_1
  have h_2 : KV 88 4 v0 s_1 := KV_mu h (Or.inl (by decide))
  clear_value s_1
  refine pk_ite ?_ ?_
  · exact (K_X12_anHour_65 h_2)
  · exact (K_X12_anHour_65 h_2)
theorem K_X12_anHour_B4 {v0 : Int32} {x1 : Int32} {x2 : Int32} {s : mG} (h : KV 88 4 v0 s) : pk (F_X12_anHour_B4 x1 x2 s) (se (fun τ => KV 88 4 v0 τ.2.2) (fun τ => KV 88 4 v0 τ.2)) := by
  unfold F_X12_anHour_B4
  refine pk_ite ?_ ?_
  · extract_lets +onlyGivenNames s_1
    have h_2 : KV 88 4 v0 s_1 := KV_mu h (Or.inl (by decide))
    clear_value s_1
    exact pk_some h_2
  · refine pk_b2 (K_X12_isMoved h) (fun _ s_3 (h_4 : KV 88 4 v0 s_3) => ?_)
    refine pk_ite ?_ ?_
    · refine pk_nn ?_
      refine pk_b1 pk_top (fun _ _ => ?_)
      exact (K_X12_anHour_54 h_4)
    · exact (K_X12_anHour_54 h_4)
theorem K_X12_anHour_L4 {v0 : Int32} {x1 : Int32} {x2 : Int32} {s : mG} (h : KV 88 4 v0 s) : pk (F_X12_anHour_L4 x1 x2 s) (fun τ => KV 88 4 v0 τ.2) := by
  unfold F_X12_anHour_L4
  refine pk_whl (fun v => KV 88 4 v0 v.2.2) h (fun v hv => ?_)
  obtain ⟨y0, y1, y2⟩ := v
  exact K_X12_anHour_B4 hv
theorem K_X12_anHour {v0 : Int32} {s : mG} (h : KV 88 4 v0 s) : pk (F_X12_anHour s) (fun τ => KV 88 4 v0 τ.2) := by
  unfold F_X12_anHour
  exact (K_X12_anHour_L4 h)
theorem K_X12_hours_24 {v0 : Int32} {s : mG} (h : KV 88 4 v0 s) : pk (F_X12_hours_24 s) (fun τ => KV 88 4 v0 τ.2) := by
  unfold F_X12_hours_24
  exact pk_some h
theorem K_X12_hours_B30 {v0 : Int32} {x1 : Int32} {x2 : Int32} {x3 : Int32} {s : mG} (h : KV 88 4 v0 s) : pk (F_X12_hours_B30 x1 x2 x3 s) (se (fun τ => KV 88 4 v0 τ.2.2.2) (fun τ => KV 88 4 v0 τ.2)) := by
  unfold F_X12_hours_B30
  refine pk_ite ?_ ?_
  · exact pk_some h
  · refine pk_b1 (K_X12_keeps h) (fun s_1 (h_2 : KV 88 4 v0 s_1) => ?_)
    refine pk_b2 (K_X12_anHour h_2) (fun _ s_3 (h_4 : KV 88 4 v0 s_3) => ?_)
    exact pk_some h_4
theorem K_X12_hours_L30 {v0 : Int32} {x1 : Int32} {x2 : Int32} {x3 : Int32} {s : mG} (h : KV 88 4 v0 s) : pk (F_X12_hours_L30 x1 x2 x3 s) (fun τ => KV 88 4 v0 τ.2) := by
  unfold F_X12_hours_L30
  refine pk_whl (fun v => KV 88 4 v0 v.2.2.2) h (fun v hv => ?_)
  obtain ⟨y0, y1, y2, y3⟩ := v
  exact K_X12_hours_B30 hv
theorem K_X12_hours {v0 : Int32} {a1 : Int32} {s : mG} (h : KV 88 4 v0 s) : pk (F_X12_hours a1 s) (fun τ => KV 88 4 v0 τ.2) := by
  unfold F_X12_hours
  refine pk_b1 pk_top (fun _ _ => ?_)
  refine pk_ite ?_ ?_
  · exact (K_X12_hours_24 h)
  · refine pk_ite ?_ ?_
    · exact (K_X12_hours_L30 h)
    · exact (K_X12_hours_24 h)
theorem K_X12_hang_36 {v0 : Int32} {s : mG} (h : KV 88 4 v0 s) : pk (F_X12_hang_36 s) (fun τ => KV 88 4 v0 τ.2) := by
  unfold F_X12_hang_36
  exact pk_some h
theorem K_X12_hang {v0 : Int32} {a1 : Int32} {a2 : Int32} {s : mG} (h : KV 88 4 v0 s) : pk (F_X12_hang a1 a2 s) (fun τ => KV 88 4 v0 τ.2) := by
  unfold F_X12_hang
  refine pk_b1 pk_top (fun _ _ => ?_)
  refine pk_ite ?_ ?_
  · exact (K_X12_hang_36 h)
  · refine pk_b1 pk_top (fun _ _ => ?_)
    refine pk_ite ?_ ?_
    · exact (K_X12_hang_36 h)
    · refine pk_nn ?_
      refine pk_ite ?_ ?_
      · exact (K_X12_hang_36 h)
      · refine pk_b1 pk_top (fun _ _ => ?_)
        refine pk_ite ?_ ?_
        · refine pk_b1 (K_X12_keeps h) (fun s_1 (h_2 : KV 88 4 v0 s_1) => ?_)
          refine pk_nn ?_
          extract_lets +onlyGivenNames s_3
          have h_4 : KV 88 4 v0 s_3 := KV_mu h_2 (Or.inl (by decide))
          clear_value s_3
          refine pk_b1 (K_X12_notes h_4) (fun s_5 (h_6 : KV 88 4 v0 s_5) => ?_)
          exact pk_some h_6
        · exact (K_X12_hang_36 h)
theorem K_X12_looks_43 {v0 : Int32} {s : mG} (h : KV 88 4 v0 s) : pk (F_X12_looks_43 s) (fun τ => KV 88 4 v0 τ.2) := by
  unfold F_X12_looks_43
  exact pk_some h
theorem K_X12_looks {v0 : Int32} {a1 : Int32} {a2 : Int32} {a3 : Int32} {s : mG} (h : KV 88 4 v0 s) : pk (F_X12_looks a1 a2 a3 s) (fun τ => KV 88 4 v0 τ.2) := by
  unfold F_X12_looks
  refine pk_b1 pk_top (fun _ _ => ?_)
  refine pk_ite ?_ ?_
  · exact (K_X12_looks_43 h)
  · refine pk_b1 pk_top (fun _ _ => ?_)
    refine pk_ite ?_ ?_
    · exact (K_X12_looks_43 h)
    · refine pk_b1 pk_top (fun _ _ => ?_)
      refine pk_ite ?_ ?_
      · exact (K_X12_looks_43 h)
      · refine pk_nn ?_
        refine pk_ite ?_ ?_
        · exact (K_X12_looks_43 h)
        · refine pk_b1 (K_X12_keeps h) (fun s_1 (h_2 : KV 88 4 v0 s_1) => ?_)
          refine pk_nn ?_
          extract_lets +onlyGivenNames s_3
          have h_4 : KV 88 4 v0 s_3 := KV_mu h_2 (Or.inl (by decide))
          clear_value s_3
          exact pk_some h_4
theorem K_X12_sureOf_70 {v0 : Int32} {x1 : Int32} {x2 : Int64} {x4 : Int32} {s : mG} (h : KV 88 4 v0 s) : pk (F_X12_sureOf_70 x1 x2 x4 s) (se (fun τ => KV 88 4 v0 τ.2.2.2) (fun τ => KV 88 4 v0 τ.2)) := by
  unfold F_X12_sureOf_70
  exact pk_some h
theorem K_X12_sureOf_B16 {v0 : Int32} {x1 : Int32} {x2 : Int64} {x4 : Int32} {s : mG} (h : KV 88 4 v0 s) : pk (F_X12_sureOf_B16 x1 x2 x4 s) (se (fun τ => KV 88 4 v0 τ.2.2.2) (fun τ => KV 88 4 v0 τ.2)) := by
  unfold F_X12_sureOf_B16
  refine pk_ite ?_ ?_
  · exact pk_some h
  · refine pk_nn ?_
    refine pk_ite ?_ ?_
    · exact (K_X12_sureOf_70 h)
    · refine pk_nn ?_
      refine pk_b1 pk_top (fun _ _ => ?_)
      exact (K_X12_sureOf_70 h)
theorem K_X12_sureOf_L16 {v0 : Int32} {x1 : Int32} {x2 : Int64} {x4 : Int32} {s : mG} (h : KV 88 4 v0 s) : pk (F_X12_sureOf_L16 x1 x2 x4 s) (fun τ => KV 88 4 v0 τ.2) := by
  unfold F_X12_sureOf_L16
  refine pk_whl (fun v => KV 88 4 v0 v.2.2.2) h (fun v hv => ?_)
  obtain ⟨y0, y1, y2, y3⟩ := v
  exact K_X12_sureOf_B16 hv
theorem K_X12_sureOf {v0 : Int32} {a1 : Int32} {s : mG} (h : KV 88 4 v0 s) : pk (F_X12_sureOf a1 s) (fun τ => KV 88 4 v0 τ.2) := by
  unfold F_X12_sureOf
  refine pk_b2 (K_X12_saysNow h) (fun _ s_1 (h_2 : KV 88 4 v0 s_1) => ?_)
  extract_lets +onlyGivenNames v_3
  clear_value v_3
  exact (K_X12_sureOf_L16 h_2)
theorem K_X12_next {v0 : Int32} {a1 : Int32} {s : mG} (h : KV 88 4 v0 s) : pk (F_X12_next a1 s) (fun τ => KV 88 4 v0 τ.2) := by
  unfold F_X12_next
  refine pk_b1 pk_top (fun _ _ => ?_)
  refine pk_ite ?_ ?_
  · exact pk_some h
  · refine pk_b2 (K_X12_sureOf h) (fun _ s_1 (h_2 : KV 88 4 v0 s_1) => ?_)
    refine pk_b1 pk_top (fun _ _ => ?_)
    refine pk_b1 pk_top (fun _ _ => ?_)
    exact pk_some h_2
theorem K_X12_looksAt_98 {v0 : Int32} {x2 : Int32} {x6 : Int32} {s : mG} (h : KV 88 4 v0 s) : pk (F_X12_looksAt_98 x2 x6 s) (fun τ => KV 88 4 v0 τ.2) := by
  unfold F_X12_looksAt_98
  refine pk_ite ?_ ?_
  · exact pk_some h
  · exact pk_some h
theorem K_X12_looksAt_70 {v0 : Int32} {x2 : Int32} {x5 : Int32} {x6 : Int32} {x7 : Int32} {y1 : Int64} {y2 : Int32} {y3 : Int32} {s : mG} (h : KV 88 4 v0 s) : pk (F_X12_looksAt_70 x2 x5 x6 x7 y1 y2 y3 s) (se (fun τ => KV 88 4 v0 τ.2.2.2.2.2) (fun τ => KV 88 4 v0 τ.2)) := by
  unfold F_X12_looksAt_70
  refine pk_b1 pk_top (fun _ _ => ?_)
  extract_lets +onlyGivenNames v_1
  clear_value v_1
  refine pk_b1 pk_top (fun _ _ => ?_)
  exact pk_some h
theorem K_X12_looksAt_B35 {v0 : Int32} {x2 : Int32} {x3 : Int64} {x5 : Int32} {x6 : Int32} {x7 : Int32} {s : mG} (h : KV 88 4 v0 s) : pk (F_X12_looksAt_B35 x2 x3 x5 x6 x7 s) (se (fun τ => KV 88 4 v0 τ.2.2.2.2.2) (fun τ => KV 88 4 v0 τ.2)) := by
  unfold F_X12_looksAt_B35
  refine pk_ite ?_ ?_
  · refine pk_b1r ?_
    exact (K_X12_looksAt_98 h)
  · refine pk_ite ?_ ?_
    · refine pk_b1r ?_
      exact (K_X12_looksAt_98 h)
    · refine pk_b1 pk_top (fun _ _ => ?_)
      refine pk_ite ?_ ?_
      · exact (K_X12_looksAt_70 h)
      · exact (K_X12_looksAt_70 h)
theorem K_X12_looksAt_L35 {v0 : Int32} {x2 : Int32} {x3 : Int64} {x5 : Int32} {x6 : Int32} {x7 : Int32} {s : mG} (h : KV 88 4 v0 s) : pk (F_X12_looksAt_L35 x2 x3 x5 x6 x7 s) (fun τ => KV 88 4 v0 τ.2) := by
  unfold F_X12_looksAt_L35
  refine pk_whl (fun v => KV 88 4 v0 v.2.2.2.2.2) h (fun v hv => ?_)
  obtain ⟨y0, y1, y2, y3, y4, y5⟩ := v
  exact K_X12_looksAt_B35 hv
theorem K_X12_looksAt {v0 : Int32} {a1 : Int32} {a2 : Int32} {s : mG} (h : KV 88 4 v0 s) : pk (F_X12_looksAt a1 a2 s) (fun τ => KV 88 4 v0 τ.2) := by
  unfold F_X12_looksAt
  refine pk_b1 pk_top (fun _ _ => ?_)
  refine pk_ite ?_ ?_
  · exact pk_some h
  · refine pk_b2 (K_X12_sureOf h) (fun _ s_1 (h_2 : KV 88 4 v0 s_1) => ?_)
    refine pk_b1 pk_top (fun _ _ => ?_)
    refine pk_b1 pk_top (fun _ _ => ?_)
    exact (K_X12_looksAt_L35 h_2)
theorem K_X12_say_22 {v0 : Int32} {s : mG} (h : KV 88 4 v0 s) : pk (F_X12_say_22 s) (fun τ => KV 88 4 v0 τ.2) := by
  unfold F_X12_say_22
  exact pk_some h
theorem K_X12_say {v0 : Int32} {a1 : Int32} {a2 : Int32} {a3 : Int32} {s : mG} (h : KV 88 4 v0 s) : pk (F_X12_say a1 a2 a3 s) (fun τ => KV 88 4 v0 τ.2) := by
  unfold F_X12_say
  refine pk_b1 pk_top (fun _ _ => ?_)
  refine pk_ite ?_ ?_
  · exact (K_X12_say_22 h)
  · refine pk_b1 pk_top (fun _ _ => ?_)
    refine pk_ite ?_ ?_
    · exact (K_X12_say_22 h)
    · refine pk_b1 pk_top (fun _ _ => ?_)
      refine pk_ite ?_ ?_
      · exact (K_X12_say_22 h)
      · refine pk_b2 (K_X12_sureOf h) (fun _ s_1 (h_2 : KV 88 4 v0 s_1) => ?_)
        refine pk_ite ?_ ?_
        · exact pk_some h_2
        · exact pk_some h_2
theorem K_X12_caller_59 {v0 : Int32} {s : mG} (h : KV 88 4 v0 s) : pk (F_X12_caller_59 s) (fun τ => KV 88 4 v0 τ.2) := by
  unfold F_X12_caller_59
  exact pk_some h
theorem K_X12_caller {v0 : Int32} {a1 : Int32} {a2 : Int32} {a3 : Int32} {s : mG} (h : KV 88 4 v0 s) : pk (F_X12_caller a1 a2 a3 s) (fun τ => KV 88 4 v0 τ.2) := by
  unfold F_X12_caller
  refine pk_ite ?_ ?_
  · extract_lets +onlyGivenNames s_1
    have h_2 : KV 88 4 v0 s_1 := KV_mu h (Or.inl (by decide))
    clear_value s_1
    exact pk_some h_2
  · refine pk_b1 pk_top (fun _ _ => ?_)
    refine pk_ite ?_ ?_
    · exact (K_X12_caller_59 h)
    · refine pk_b1 pk_top (fun _ _ => ?_)
      refine pk_ite ?_ ?_
      · exact (K_X12_caller_59 h)
      · refine pk_b1 pk_top (fun _ _ => ?_)
        refine pk_ite ?_ ?_
        · exact (K_X12_caller_59 h)
        · refine pk_ite ?_ ?_
          · exact (K_X12_caller_59 h)
          · extract_lets +onlyGivenNames v_3
            clear_value v_3
            refine pk_nn ?_
            extract_lets +onlyGivenNames s_4
            have h_5 : KV 88 4 v0 s_4 := KV_mu h (Or.inl (by decide))
            clear_value s_4
            refine pk_nn ?_
            extract_lets +onlyGivenNames s_6
            have h_7 : KV 88 4 v0 s_6 := KV_mu h_5 (Or.inl (by decide))
            clear_value s_6
            refine pk_nn ?_
            extract_lets +onlyGivenNames s_8
            have h_9 : KV 88 4 v0 s_8 := KV_mu h_7 (Or.inl (by decide))
            clear_value s_8
            extract_lets +onlyGivenNames s_10
            have h_11 : KV 88 4 v0 s_10 := KV_mu h_9 (Or.inl (by decide))
            clear_value s_10
            exact pk_some h_11
theorem K_X12_said_149 {v0 : Int32} {x1 : Int32} {x2 : Int32} {x4 : Int32} {y0 : Int32} {y1 : Int64} {s : mG} (h : KV 88 4 v0 s) : pk (F_X12_said_149 x1 x2 x4 y0 y1 s) (se (fun τ => KV 88 4 v0 τ.2.2.2.2) (fun τ => KV 88 4 v0 τ.2)) := by
  unfold F_X12_said_149
  extract_lets +onlyGivenNames v_1
  clear_value v_1
  exact pk_some h
theorem K_X12_said_108 {v0 : Int32} {x1 : Int32} {x3 : Int32} {x4 : Int32} {x5 : Int32} {x6 : Int32} {x7 : Int64} {y0 : Int32} {y1 : Int32} {s : mG} (h : KV 88 4 v0 s) : pk (F_X12_said_108 x1 x3 x4 x5 x6 x7 y0 y1 s) (se (fun τ => KV 88 4 v0 τ.2.2.2.2) (fun τ => KV 88 4 v0 τ.2)) := by
  unfold F_X12_said_108
  refine pk_ite ?_ ?_
  · refine pk_nn ?_
    exact (K_X12_said_149 h)
  · refine pk_nn ?_
    exact (K_X12_said_149 h)
theorem K_X12_said_79 {v0 : Int32} {x1 : Int32} {x2 : Int32} {x3 : Int32} {x4 : Int32} {x5 : Int32} {y0 : Int32} {s : mG} (h : KV 88 4 v0 s) : pk (F_X12_said_79 x1 x2 x3 x4 x5 y0 s) (se (fun τ => KV 88 4 v0 τ.2.2.2.2) (fun τ => KV 88 4 v0 τ.2)) := by
  unfold F_X12_said_79
  refine pk_nn ?_
  refine pk_b2 (K_X12_sureOf h) (fun _ s_1 (h_2 : KV 88 4 v0 s_1) => ?_)
  refine pk_ite ?_ ?_
  · exact (K_X12_said_108 h_2)
  · exact (K_X12_said_108 h_2)
theorem K_X12_said_B18 {v0 : Int32} {x1 : Int32} {x2 : Int32} {x3 : Int32} {x4 : Int32} {s : mG} (h : KV 88 4 v0 s) : pk (F_X12_said_B18 x1 x2 x3 x4 s) (se (fun τ => KV 88 4 v0 τ.2.2.2.2) (fun τ => KV 88 4 v0 τ.2)) := by
  unfold F_X12_said_B18
  refine pk_ite ?_ ?_
  · refine pk_ite ?_ ?_
    · exact pk_some h
    · exact pk_some h
  · extract_lets +onlyGivenNames v_1
    clear_value v_1
    refine pk_nn ?_
    refine pk_nn ?_
    refine pk_nn ?_
    refine pk_b2 (K_X12_say h) (fun _ s_2 (h_3 : KV 88 4 v0 s_2) => ?_)
    refine pk_ite ?_ ?_
    · exact (K_X12_said_79 h_3)
    · exact (K_X12_said_79 h_3)
theorem K_X12_said_L18 {v0 : Int32} {x1 : Int32} {x2 : Int32} {x3 : Int32} {x4 : Int32} {s : mG} (h : KV 88 4 v0 s) : pk (F_X12_said_L18 x1 x2 x3 x4 s) (fun τ => KV 88 4 v0 τ.2) := by
  unfold F_X12_said_L18
  refine pk_whl (fun v => KV 88 4 v0 v.2.2.2.2) h (fun v hv => ?_)
  obtain ⟨y0, y1, y2, y3, y4⟩ := v
  exact K_X12_said_B18 hv
theorem K_X12_said {v0 : Int32} {a1 : Int32} {s : mG} (h : KV 88 4 v0 s) : pk (F_X12_said a1 s) (fun τ => KV 88 4 v0 τ.2) := by
  unfold F_X12_said
  refine pk_b1 pk_top (fun _ _ => ?_)
  refine pk_ite ?_ ?_
  · exact pk_some h
  · exact (K_X12_said_L18 h)
theorem K_X12_pair_20 {v0 : Int32} {s : mG} (h : KV 88 4 v0 s) : pk (F_X12_pair_20 s) (fun τ => KV 88 4 v0 τ.2) := by
  unfold F_X12_pair_20
  exact pk_some h
theorem K_X12_pair_105 {v0 : Int32} {x1 : Int32} {x2 : Int64} {x4 : Int32} {x5 : Int32} {x6 : Int32} {x7 : Int32} {s : mG} (h : KV 88 4 v0 s) : pk (F_X12_pair_105 x1 x2 x4 x5 x6 x7 s) (se (fun τ => KV 88 4 v0 τ.2.2.2.2.2.2) (se (fun τ => KV 88 4 v0 τ.2.2.2.2.2) (fun τ => KV 88 4 v0 τ.2))) := by
  unfold F_X12_pair_105
  exact pk_some h
theorem K_X12_pair_B53 {v0 : Int32} {x1 : Int32} {x2 : Int64} {x4 : Int32} {x5 : Int32} {x6 : Int32} {x7 : Int32} {s : mG} (h : KV 88 4 v0 s) : pk (F_X12_pair_B53 x1 x2 x4 x5 x6 x7 s) (se (fun τ => KV 88 4 v0 τ.2.2.2.2.2.2) (se (fun τ => KV 88 4 v0 τ.2.2.2.2.2) (fun τ => KV 88 4 v0 τ.2))) := by
  unfold F_X12_pair_B53
  refine pk_ite ?_ ?_
  · exact pk_some h
  · refine pk_b2 (K_X12_sureOf h) (fun _ s_1 (h_2 : KV 88 4 v0 s_1) => ?_)
    refine pk_b2 (K_X12_sureOf h_2) (fun _ s_3 (h_4 : KV 88 4 v0 s_3) => ?_)
    extract_lets +onlyGivenNames v_5
    clear_value v_5
    refine pk_ite ?_ ?_
    · exact (K_X12_pair_105 h_4)
    · exact (K_X12_pair_105 h_4)
theorem K_X12_pair_L53 {v0 : Int32} {x1 : Int32} {x2 : Int64} {x4 : Int32} {x5 : Int32} {x6 : Int32} {x7 : Int32} {s : mG} (h : KV 88 4 v0 s) : pk (F_X12_pair_L53 x1 x2 x4 x5 x6 x7 s) (se (fun τ => KV 88 4 v0 τ.2.2.2.2.2) (fun τ => KV 88 4 v0 τ.2)) := by
  unfold F_X12_pair_L53
  refine pk_whl (fun v => KV 88 4 v0 v.2.2.2.2.2.2) h (fun v hv => ?_)
  obtain ⟨y0, y1, y2, y3, y4, y5, y6⟩ := v
  exact K_X12_pair_B53 hv
theorem K_X12_pair_B35 {v0 : Int32} {x1 : Int32} {x2 : Int64} {x4 : Int32} {x5 : Int32} {x6 : Int32} {s : mG} (h : KV 88 4 v0 s) : pk (F_X12_pair_B35 x1 x2 x4 x5 x6 s) (se (fun τ => KV 88 4 v0 τ.2.2.2.2.2) (fun τ => KV 88 4 v0 τ.2)) := by
  unfold F_X12_pair_B35
  refine pk_ite ?_ ?_
  · refine pk_ite ?_ ?_
    · exact pk_some h
    · refine pk_ite ?_ ?_
      · exact pk_some h
      · exact pk_some h
  · exact (K_X12_pair_L53 h)
theorem K_X12_pair_L35 {v0 : Int32} {x1 : Int32} {x2 : Int64} {x4 : Int32} {x5 : Int32} {x6 : Int32} {s : mG} (h : KV 88 4 v0 s) : pk (F_X12_pair_L35 x1 x2 x4 x5 x6 s) (fun τ => KV 88 4 v0 τ.2) := by
  unfold F_X12_pair_L35
  refine pk_whl (fun v => KV 88 4 v0 v.2.2.2.2.2) h (fun v hv => ?_)
  obtain ⟨y0, y1, y2, y3, y4, y5⟩ := v
  exact K_X12_pair_B35 hv
theorem K_X12_pair {v0 : Int32} {a1 : Int32} {s : mG} (h : KV 88 4 v0 s) : pk (F_X12_pair a1 s) (fun τ => KV 88 4 v0 τ.2) := by
  unfold F_X12_pair
  refine pk_b1 pk_top (fun _ _ => ?_)
  refine pk_ite ?_ ?_
  · exact (K_X12_pair_20 h)
  · refine pk_ite ?_ ?_
    · exact (K_X12_pair_L35 h)
    · exact (K_X12_pair_20 h)
theorem K_X12_laysChances_116 {v0 : Int32} {x1 : Int32} {x2 : Int64} {x4 : Int32} {y1 : Int32} {y2 : Int64} {y3 : Int64} {s : mG} (h : KV 88 4 v0 s) : pk (F_X12_laysChances_116 x1 x2 x4 y1 y2 y3 s) (se (fun τ => KV 88 4 v0 τ.2.2.2) (se (fun τ => KV 88 4 v0 τ.2) (fun τ => KV 88 4 v0 τ))) := by
  unfold F_X12_laysChances_116
  refine pk_nn ?_
  extract_lets +onlyGivenNames s_1
  have h_2 : KV 88 4 v0 s_1 := h
  clear_value s_1
  exact pk_some h_2
theorem K_X12_laysChances_B64 {v0 : Int32} {x1 : Int32} {x2 : Int64} {x4 : Int32} {s : mG} (h : KV 88 4 v0 s) : pk (F_X12_laysChances_B64 x1 x2 x4 s) (se (fun τ => KV 88 4 v0 τ.2.2.2) (se (fun τ => KV 88 4 v0 τ.2) (fun τ => KV 88 4 v0 τ))) := by
  unfold F_X12_laysChances_B64
  refine pk_ite ?_ ?_
  · exact pk_some h
  · refine pk_nn ?_
    refine pk_ite ?_ ?_
    · exact (K_X12_laysChances_116 h)
    · refine pk_nn ?_
      exact (K_X12_laysChances_116 h)
theorem K_X12_laysChances_L64 {v0 : Int32} {x1 : Int32} {x2 : Int64} {x4 : Int32} {s : mG} (h : KV 88 4 v0 s) : pk (F_X12_laysChances_L64 x1 x2 x4 s) (se (fun τ => KV 88 4 v0 τ.2) (fun τ => KV 88 4 v0 τ)) := by
  unfold F_X12_laysChances_L64
  refine pk_whl (fun v => KV 88 4 v0 v.2.2.2) h (fun v hv => ?_)
  obtain ⟨y0, y1, y2, y3⟩ := v
  exact K_X12_laysChances_B64 hv
theorem K_X12_laysChances_B38 {v0 : Int32} {x1 : Int32} {s : mG} (h : KV 88 4 v0 s) : pk (F_X12_laysChances_B38 x1 s) (se (fun τ => KV 88 4 v0 τ.2) (fun τ => KV 88 4 v0 τ)) := by
  unfold F_X12_laysChances_B38
  refine pk_ite ?_ ?_
  · exact pk_some h
  · refine pk_b2 (K_X12_sureOf h) (fun _ s_1 (h_2 : KV 88 4 v0 s_1) => ?_)
    exact (K_X12_laysChances_L64 h_2)
theorem K_X12_laysChances_L38 {v0 : Int32} {x1 : Int32} {s : mG} (h : KV 88 4 v0 s) : pk (F_X12_laysChances_L38 x1 s) (fun τ => KV 88 4 v0 τ) := by
  unfold F_X12_laysChances_L38
  refine pk_whl (fun v => KV 88 4 v0 v.2) h (fun v hv => ?_)
  obtain ⟨y0, y1⟩ := v
  exact K_X12_laysChances_B38 hv
theorem K_X12_laysChances_29 {v0 : Int32} {x1 : Int32} {y1 : Int32} {y2 : Int64} {s : mG} (h : KV 88 4 v0 s) : pk (F_X12_laysChances_29 x1 y1 y2 s) (se (fun τ => KV 88 4 v0 τ.2) (fun τ => KV 88 4 v0 τ)) := by
  unfold F_X12_laysChances_29
  refine pk_nn ?_
  extract_lets +onlyGivenNames s_1
  have h_2 : KV 88 4 v0 s_1 := h
  clear_value s_1
  exact pk_some h_2
theorem K_X12_laysChances_B2 {v0 : Int32} {x1 : Int32} {s : mG} (h : KV 88 4 v0 s) : pk (F_X12_laysChances_B2 x1 s) (se (fun τ => KV 88 4 v0 τ.2) (fun τ => KV 88 4 v0 τ)) := by
  unfold F_X12_laysChances_B2
  refine pk_ite ?_ ?_
  · refine pk_b1r ?_
    exact (K_X12_laysChances_L38 h)
  · refine pk_ite ?_ ?_
    · exact (K_X12_laysChances_29 h)
    · exact (K_X12_laysChances_29 h)
theorem K_X12_laysChances_L2 {v0 : Int32} {x1 : Int32} {s : mG} (h : KV 88 4 v0 s) : pk (F_X12_laysChances_L2 x1 s) (fun τ => KV 88 4 v0 τ) := by
  unfold F_X12_laysChances_L2
  refine pk_whl (fun v => KV 88 4 v0 v.2) h (fun v hv => ?_)
  obtain ⟨y0, y1⟩ := v
  exact K_X12_laysChances_B2 hv
theorem K_X12_laysChances {v0 : Int32} {s : mG} (h : KV 88 4 v0 s) : pk (F_X12_laysChances s) (fun τ => KV 88 4 v0 τ) := by
  unfold F_X12_laysChances
  exact (K_X12_laysChances_L2 h)
theorem K_X12_many_98 {v0 : Int32} {x1 : Int32} {x4 : Int32} {x5 : Int32} {s : mG} (h : KV 88 4 v0 s) : pk (F_X12_many_98 x1 x4 x5 s) (se (fun τ => KV 88 4 v0 τ.2.2.2) (fun τ => KV 88 4 v0 τ.2)) := by
  unfold F_X12_many_98
  exact pk_some h
theorem K_X12_many_B64 {v0 : Int32} {x1 : Int32} {x4 : Int32} {x5 : Int32} {s : mG} (h : KV 88 4 v0 s) : pk (F_X12_many_B64 x1 x4 x5 s) (se (fun τ => KV 88 4 v0 τ.2.2.2) (fun τ => KV 88 4 v0 τ.2)) := by
  unfold F_X12_many_B64
  refine pk_ite ?_ ?_
  · refine pk_ite ?_ ?_
    · exact pk_some h
    · refine pk_nn ?_
      extract_lets +onlyGivenNames v_1
      clear_value v_1
      exact pk_some h
  · refine pk_nn ?_
    refine pk_nn ?_
    refine pk_ite ?_ ?_
    · exact (K_X12_many_98 h)
    · exact (K_X12_many_98 h)
theorem K_X12_many_L64 {v0 : Int32} {x1 : Int32} {x4 : Int32} {x5 : Int32} {s : mG} (h : KV 88 4 v0 s) : pk (F_X12_many_L64 x1 x4 x5 s) (fun τ => KV 88 4 v0 τ.2) := by
  unfold F_X12_many_L64
  refine pk_whl (fun v => KV 88 4 v0 v.2.2.2) h (fun v hv => ?_)
  obtain ⟨y0, y1, y2, y3⟩ := v
  exact K_X12_many_B64 hv
theorem K_X12_many_B16 {v0 : Int32} {x1 : Int32} {x2 : Int64} {x4 : Int32} {s : mG} (h : KV 88 4 v0 s) : pk (F_X12_many_B16 x1 x2 x4 s) (se (fun τ => KV 88 4 v0 τ.2.2.2) (fun τ => KV 88 4 v0 τ.2)) := by
  unfold F_X12_many_B16
  refine pk_ite ?_ ?_
  · refine pk_ite ?_ ?_
    · extract_lets +onlyGivenNames v_1
      clear_value v_1
      exact pk_some h
    · refine pk_b1 (K_X12_laysChances h) (fun s_2 (h_3 : KV 88 4 v0 s_2) => ?_)
      refine pk_b1r ?_
      exact (K_X12_many_L64 h_3)
  · refine pk_b2 (K_X12_sureOf h) (fun _ s_4 (h_5 : KV 88 4 v0 s_4) => ?_)
    exact pk_some h_5
theorem K_X12_many_L16 {v0 : Int32} {x1 : Int32} {x2 : Int64} {x4 : Int32} {s : mG} (h : KV 88 4 v0 s) : pk (F_X12_many_L16 x1 x2 x4 s) (fun τ => KV 88 4 v0 τ.2) := by
  unfold F_X12_many_L16
  refine pk_whl (fun v => KV 88 4 v0 v.2.2.2) h (fun v hv => ?_)
  obtain ⟨y0, y1, y2, y3⟩ := v
  exact K_X12_many_B16 hv
theorem K_X12_many {v0 : Int32} {a1 : Int32} {s : mG} (h : KV 88 4 v0 s) : pk (F_X12_many a1 s) (fun τ => KV 88 4 v0 τ.2) := by
  unfold F_X12_many
  refine pk_b1 pk_top (fun _ _ => ?_)
  refine pk_ite ?_ ?_
  · exact pk_some h
  · exact (K_X12_many_L16 h)
theorem K_X12_tagCostOf_B6 {v0 : Int32} {x1 : Int32} {x2 : Int32} {x3 : Int32} {x4 : Int32} {x5 : Int32} {s : mG} (h : KV 88 4 v0 s) : pk (F_X12_tagCostOf_B6 x1 x2 x3 x4 x5 s) (se (fun τ => KV 88 4 v0 τ.2.2.2.2.2) (fun τ => KV 88 4 v0 τ.2)) := by
  unfold F_X12_tagCostOf_B6
  refine pk_ite ?_ ?_
  · extract_lets +onlyGivenNames v_1
    clear_value v_1
    exact pk_some h
  · refine pk_nn ?_
    refine pk_b2 (K_X12_saysIn h) (fun _ s_2 (h_3 : KV 88 4 v0 s_2) => ?_)
    exact pk_some h_3
theorem K_X12_tagCostOf_L6 {v0 : Int32} {x1 : Int32} {x2 : Int32} {x3 : Int32} {x4 : Int32} {x5 : Int32} {s : mG} (h : KV 88 4 v0 s) : pk (F_X12_tagCostOf_L6 x1 x2 x3 x4 x5 s) (fun τ => KV 88 4 v0 τ.2) := by
  unfold F_X12_tagCostOf_L6
  refine pk_whl (fun v => KV 88 4 v0 v.2.2.2.2.2) h (fun v hv => ?_)
  obtain ⟨y0, y1, y2, y3, y4, y5⟩ := v
  exact K_X12_tagCostOf_B6 hv
theorem K_X12_tagCostOf {v0 : Int32} {a1 : Int32} {a2 : Int32} {a3 : Int32} {s : mG} (h : KV 88 4 v0 s) : pk (F_X12_tagCostOf a1 a2 a3 s) (fun τ => KV 88 4 v0 τ.2) := by
  unfold F_X12_tagCostOf
  exact (K_X12_tagCostOf_L6 h)
theorem K_X12_tag_22 {v0 : Int32} {s : mG} (h : KV 88 4 v0 s) : pk (F_X12_tag_22 s) (fun τ => KV 88 4 v0 τ.2) := by
  unfold F_X12_tag_22
  exact pk_some h
theorem K_X12_tag_57 {v0 : Int32} {x1 : Int32} {x2 : Int32} {x3 : Int32} {x4 : Int32} {s : mG} (h : KV 88 4 v0 s) : pk (F_X12_tag_57 x1 x2 x3 x4 s) (se (fun τ => KV 88 4 v0 τ.2.2.2.2) (fun τ => KV 88 4 v0 τ.2)) := by
  unfold F_X12_tag_57
  exact pk_some h
theorem K_X12_tag_B29 {v0 : Int32} {x1 : Int32} {x2 : Int32} {x3 : Int32} {x4 : Int32} {s : mG} (h : KV 88 4 v0 s) : pk (F_X12_tag_B29 x1 x2 x3 x4 s) (se (fun τ => KV 88 4 v0 τ.2.2.2.2) (fun τ => KV 88 4 v0 τ.2)) := by
  unfold F_X12_tag_B29
  refine pk_ite ?_ ?_
  · exact pk_some h
  · refine pk_b2 (K_X12_tagCostOf h) (fun _ s_1 (h_2 : KV 88 4 v0 s_1) => ?_)
    refine pk_b2 (K_X12_tagCostOf h_2) (fun _ s_3 (h_4 : KV 88 4 v0 s_3) => ?_)
    refine pk_ite ?_ ?_
    · exact (K_X12_tag_57 h_4)
    · exact (K_X12_tag_57 h_4)
theorem K_X12_tag_L29 {v0 : Int32} {x1 : Int32} {x2 : Int32} {x3 : Int32} {x4 : Int32} {s : mG} (h : KV 88 4 v0 s) : pk (F_X12_tag_L29 x1 x2 x3 x4 s) (fun τ => KV 88 4 v0 τ.2) := by
  unfold F_X12_tag_L29
  refine pk_whl (fun v => KV 88 4 v0 v.2.2.2.2) h (fun v hv => ?_)
  obtain ⟨y0, y1, y2, y3, y4⟩ := v
  exact K_X12_tag_B29 hv
theorem K_X12_tag {v0 : Int32} {a1 : Int32} {a2 : Int32} {s : mG} (h : KV 88 4 v0 s) : pk (F_X12_tag a1 a2 s) (fun τ => KV 88 4 v0 τ.2) := by
  unfold F_X12_tag
  refine pk_b1 pk_top (fun _ _ => ?_)
  refine pk_ite ?_ ?_
  · exact (K_X12_tag_22 h)
  · refine pk_b1 pk_top (fun _ _ => ?_)
    refine pk_ite ?_ ?_
    · exact (K_X12_tag_22 h)
    · exact (K_X12_tag_L29 h)
theorem K_X12_tagCost_42 {v0 : Int32} {s : mG} (h : KV 88 4 v0 s) : pk (F_X12_tagCost_42 s) (fun τ => KV 88 4 v0 τ.2) := by
  unfold F_X12_tagCost_42
  exact pk_some h
theorem K_X12_tagCost {v0 : Int32} {a1 : Int32} {a2 : Int32} {a3 : Int32} {s : mG} (h : KV 88 4 v0 s) : pk (F_X12_tagCost a1 a2 a3 s) (fun τ => KV 88 4 v0 τ.2) := by
  unfold F_X12_tagCost
  refine pk_b1 pk_top (fun _ _ => ?_)
  refine pk_ite ?_ ?_
  · exact (K_X12_tagCost_42 h)
  · refine pk_b1 pk_top (fun _ _ => ?_)
    refine pk_ite ?_ ?_
    · exact (K_X12_tagCost_42 h)
    · refine pk_b1 pk_top (fun _ _ => ?_)
      refine pk_ite ?_ ?_
      · exact (K_X12_tagCost_42 h)
      · refine pk_b2 (K_X12_tagCostOf h) (fun _ s_1 (h_2 : KV 88 4 v0 s_1) => ?_)
        exact pk_some h_2
theorem K_X12_span_20 {v0 : Int32} {s : mG} (h : KV 88 4 v0 s) : pk (F_X12_span_20 s) (fun τ => KV 88 4 v0 τ.2) := by
  unfold F_X12_span_20
  exact pk_some h
theorem K_X12_span_103 {v0 : Int32} {x4 : Int32} {s : mG} (h : KV 88 4 v0 s) : pk (F_X12_span_103 x4 s) (fun τ => KV 88 4 v0 τ.2) := by
  unfold F_X12_span_103
  exact pk_some h
theorem K_X12_span_87 {v0 : Int32} {x1 : Int32} {x2 : Int32} {x3 : Int32} {x4 : Int32} {x5 : Int32} {s : mG} (h : KV 88 4 v0 s) : pk (F_X12_span_87 x1 x2 x3 x4 x5 s) (se (fun τ => KV 88 4 v0 τ.2.2.2.2.2) (fun τ => KV 88 4 v0 τ.2)) := by
  unfold F_X12_span_87
  exact pk_some h
theorem K_X12_span_80 {v0 : Int32} {x1 : Int32} {x2 : Int32} {x5 : Int32} {x6 : Int32} {s : mG} (h : KV 88 4 v0 s) : pk (F_X12_span_80 x1 x2 x5 x6 s) (se (fun τ => KV 88 4 v0 τ.2.2.2.2.2) (fun τ => KV 88 4 v0 τ.2)) := by
  unfold F_X12_span_80
  exact (K_X12_span_87 h)
theorem K_X12_span_B34 {v0 : Int32} {x1 : Int32} {x2 : Int32} {x3 : Int32} {x4 : Int32} {x5 : Int32} {s : mG} (h : KV 88 4 v0 s) : pk (F_X12_span_B34 x1 x2 x3 x4 x5 s) (se (fun τ => KV 88 4 v0 τ.2.2.2.2.2) (fun τ => KV 88 4 v0 τ.2)) := by
  unfold F_X12_span_B34
  refine pk_ite ?_ ?_
  · refine pk_ite ?_ ?_
    · refine pk_b1r ?_
      exact (K_X12_span_103 h)
    · refine pk_ite ?_ ?_
      · refine pk_b1r ?_
        exact (K_X12_span_103 h)
      · exact pk_some h
  · refine pk_b1 pk_top (fun _ _ => ?_)
    refine pk_ite ?_ ?_
    · exact (K_X12_span_87 h)
    · refine pk_ite ?_ ?_
      · exact (K_X12_span_80 h)
      · refine pk_ite ?_ ?_
        · exact (K_X12_span_80 h)
        · exact (K_X12_span_87 h)
theorem K_X12_span_L34 {v0 : Int32} {x1 : Int32} {x2 : Int32} {x3 : Int32} {x4 : Int32} {x5 : Int32} {s : mG} (h : KV 88 4 v0 s) : pk (F_X12_span_L34 x1 x2 x3 x4 x5 s) (fun τ => KV 88 4 v0 τ.2) := by
  unfold F_X12_span_L34
  refine pk_whl (fun v => KV 88 4 v0 v.2.2.2.2.2) h (fun v hv => ?_)
  obtain ⟨y0, y1, y2, y3, y4, y5⟩ := v
  exact K_X12_span_B34 hv
theorem K_X12_span {v0 : Int32} {a1 : Int32} {a2 : Int32} {s : mG} (h : KV 88 4 v0 s) : pk (F_X12_span a1 a2 s) (fun τ => KV 88 4 v0 τ.2) := by
  unfold F_X12_span
  refine pk_b1 pk_top (fun _ _ => ?_)
  refine pk_ite ?_ ?_
  · exact (K_X12_span_20 h)
  · refine pk_b1 pk_top (fun _ _ => ?_)
    refine pk_ite ?_ ?_
    · exact (K_X12_span_20 h)
    · refine pk_b1 (K_X12_laysChances h) (fun s_1 (h_2 : KV 88 4 v0 s_1) => ?_)
      exact (K_X12_span_L34 h_2)
theorem K_X12_laysOthers_115 {v0 : Int32} {x1 : Int32} {x2 : Int32} {s : mG} (h : KV 88 4 v0 s) : pk (F_X12_laysOthers_115 x1 x2 s) (se (fun τ => KV 88 4 v0 τ.2.2) (fun τ => KV 88 4 v0 τ)) := by
  unfold F_X12_laysOthers_115
  exact pk_some h
theorem K_X12_laysOthers_B63 {v0 : Int32} {x1 : Int32} {x2 : Int32} {x3 : Int64} {x5 : Int32} {s : mG} (h : KV 88 4 v0 s) : pk (F_X12_laysOthers_B63 x1 x2 x3 x5 s) (se (fun τ => KV 88 4 v0 τ.2.2.2.2) (se (fun τ => KV 88 4 v0 τ.2.2) (fun τ => KV 88 4 v0 τ))) := by
  unfold F_X12_laysOthers_B63
  refine pk_ite ?_ ?_
  · refine pk_b1r ?_
    exact (K_X12_laysOthers_115 h)
  · refine pk_nn ?_
    refine pk_nn ?_
    refine pk_nn ?_
    extract_lets +onlyGivenNames s_1
    have h_2 : KV 88 4 v0 s_1 := h
    clear_value s_1
    exact pk_some h_2
theorem K_X12_laysOthers_L63 {v0 : Int32} {x1 : Int32} {x2 : Int32} {x3 : Int64} {x5 : Int32} {s : mG} (h : KV 88 4 v0 s) : pk (F_X12_laysOthers_L63 x1 x2 x3 x5 s) (se (fun τ => KV 88 4 v0 τ.2.2) (fun τ => KV 88 4 v0 τ)) := by
  unfold F_X12_laysOthers_L63
  refine pk_whl (fun v => KV 88 4 v0 v.2.2.2.2) h (fun v hv => ?_)
  obtain ⟨y0, y1, y2, y3, y4⟩ := v
  exact K_X12_laysOthers_B63 hv
theorem K_X12_laysOthers_B34 {v0 : Int32} {x1 : Int32} {x2 : Int32} {s : mG} (h : KV 88 4 v0 s) : pk (F_X12_laysOthers_B34 x1 x2 s) (se (fun τ => KV 88 4 v0 τ.2.2) (fun τ => KV 88 4 v0 τ)) := by
  unfold F_X12_laysOthers_B34
  refine pk_ite ?_ ?_
  · exact pk_some h
  · refine pk_ite ?_ ?_
    · exact (K_X12_laysOthers_115 h)
    · refine pk_b2 (K_X12_sureOf h) (fun _ s_1 (h_2 : KV 88 4 v0 s_1) => ?_)
      exact (K_X12_laysOthers_L63 h_2)
theorem K_X12_laysOthers_L34 {v0 : Int32} {x1 : Int32} {x2 : Int32} {s : mG} (h : KV 88 4 v0 s) : pk (F_X12_laysOthers_L34 x1 x2 s) (fun τ => KV 88 4 v0 τ) := by
  unfold F_X12_laysOthers_L34
  refine pk_whl (fun v => KV 88 4 v0 v.2.2) h (fun v hv => ?_)
  obtain ⟨y0, y1, y2⟩ := v
  exact K_X12_laysOthers_B34 hv
theorem K_X12_laysOthers_25 {v0 : Int32} {x1 : Int32} {x2 : Int32} {y1 : Int32} {y2 : Int64} {s : mG} (h : KV 88 4 v0 s) : pk (F_X12_laysOthers_25 x1 x2 y1 y2 s) (se (fun τ => KV 88 4 v0 τ.2.2) (fun τ => KV 88 4 v0 τ)) := by
  unfold F_X12_laysOthers_25
  refine pk_nn ?_
  extract_lets +onlyGivenNames s_1
  have h_2 : KV 88 4 v0 s_1 := h
  clear_value s_1
  exact pk_some h_2
theorem K_X12_laysOthers_B2 {v0 : Int32} {x1 : Int32} {x2 : Int32} {s : mG} (h : KV 88 4 v0 s) : pk (F_X12_laysOthers_B2 x1 x2 s) (se (fun τ => KV 88 4 v0 τ.2.2) (fun τ => KV 88 4 v0 τ)) := by
  unfold F_X12_laysOthers_B2
  refine pk_ite ?_ ?_
  · refine pk_b1r ?_
    exact (K_X12_laysOthers_L34 h)
  · refine pk_ite ?_ ?_
    · exact (K_X12_laysOthers_25 h)
    · exact (K_X12_laysOthers_25 h)
theorem K_X12_laysOthers_L2 {v0 : Int32} {x1 : Int32} {x2 : Int32} {s : mG} (h : KV 88 4 v0 s) : pk (F_X12_laysOthers_L2 x1 x2 s) (fun τ => KV 88 4 v0 τ) := by
  unfold F_X12_laysOthers_L2
  refine pk_whl (fun v => KV 88 4 v0 v.2.2) h (fun v hv => ?_)
  obtain ⟨y0, y1, y2⟩ := v
  exact K_X12_laysOthers_B2 hv
theorem K_X12_laysOthers {v0 : Int32} {a1 : Int32} {s : mG} (h : KV 88 4 v0 s) : pk (F_X12_laysOthers a1 s) (fun τ => KV 88 4 v0 τ) := by
  unfold F_X12_laysOthers
  exact (K_X12_laysOthers_L2 h)
theorem K_X12_counted_18 {v0 : Int32} {s : mG} (h : KV 88 4 v0 s) : pk (F_X12_counted_18 s) (fun τ => KV 88 4 v0 τ.2) := by
  unfold F_X12_counted_18
  exact pk_some h
theorem K_X12_counted {v0 : Int32} {a1 : Int32} {a2 : Int32} {s : mG} (h : KV 88 4 v0 s) : pk (F_X12_counted a1 a2 s) (fun τ => KV 88 4 v0 τ.2) := by
  unfold F_X12_counted
  refine pk_b1 pk_top (fun _ _ => ?_)
  refine pk_ite ?_ ?_
  · exact (K_X12_counted_18 h)
  · refine pk_b1 pk_top (fun _ _ => ?_)
    refine pk_ite ?_ ?_
    · exact (K_X12_counted_18 h)
    · refine pk_b1 (K_X12_laysOthers h) (fun s_1 (h_2 : KV 88 4 v0 s_1) => ?_)
      refine pk_b2 (K_X12_sureOf h_2) (fun _ s_3 (h_4 : KV 88 4 v0 s_3) => ?_)
      refine pk_nn ?_
      extract_lets +onlyGivenNames v_5
      clear_value v_5
      refine pk_nn ?_
      extract_lets +onlyGivenNames v_6
      clear_value v_6
      refine pk_ite ?_ ?_
      · exact pk_some h_4
      · refine pk_nn ?_
        extract_lets +onlyGivenNames v_7
        clear_value v_7
        exact pk_some h_4
theorem K_X12_visit_17 {v0 : Int32} {s : mG} (h : KV 88 4 v0 s) : pk (F_X12_visit_17 s) (fun τ => KV 88 4 v0 τ.2) := by
  unfold F_X12_visit_17
  exact pk_some h
theorem K_X12_visit_154 {v0 : Int32} {x1 : Int32} {x2 : Int32} {x3 : Int64} {x5 : Int32} {x6 : Int64} {x8 : Int32} {s : mG} (h : KV 88 4 v0 s) : pk (F_X12_visit_154 x1 x2 x3 x5 x6 x8 s) (se (fun τ => KV 88 4 v0 τ.2.2.2.2.2.2) (fun τ => KV 88 4 v0 τ.2)) := by
  unfold F_X12_visit_154
  exact pk_some h
theorem K_X12_visit_B34 {v0 : Int32} {x1 : Int32} {x2 : Int32} {x3 : Int64} {x5 : Int32} {x6 : Int64} {x8 : Int32} {s : mG} (h : KV 88 4 v0 s) : pk (F_X12_visit_B34 x1 x2 x3 x5 x6 x8 s) (se (fun τ => KV 88 4 v0 τ.2.2.2.2.2.2) (fun τ => KV 88 4 v0 τ.2)) := by
  unfold F_X12_visit_B34
  refine pk_ite ?_ ?_
  · refine pk_ite ?_ ?_
    · exact pk_some h
    · exact pk_some h
  · refine pk_nn ?_
    refine pk_b2 (K_X12_saysIn h) (fun _ s_1 (h_2 : KV 88 4 v0 s_1) => ?_)
    refine pk_nn ?_
    refine pk_b2 (K_X12_saysIn h_2) (fun _ s_3 (h_4 : KV 88 4 v0 s_3) => ?_)
    extract_lets +onlyGivenNames v_5
    clear_value v_5
    refine pk_ite ?_ ?_
    · exact (K_X12_visit_154 h_4)
    · exact (K_X12_visit_154 h_4)
theorem K_X12_visit_L34 {v0 : Int32} {x1 : Int32} {x2 : Int32} {x3 : Int64} {x5 : Int32} {x6 : Int64} {x8 : Int32} {s : mG} (h : KV 88 4 v0 s) : pk (F_X12_visit_L34 x1 x2 x3 x5 x6 x8 s) (fun τ => KV 88 4 v0 τ.2) := by
  unfold F_X12_visit_L34
  refine pk_whl (fun v => KV 88 4 v0 v.2.2.2.2.2.2) h (fun v hv => ?_)
  obtain ⟨y0, y1, y2, y3, y4, y5, y6⟩ := v
  exact K_X12_visit_B34 hv
theorem K_X12_visit {v0 : Int32} {a1 : Int32} {a2 : Int32} {s : mG} (h : KV 88 4 v0 s) : pk (F_X12_visit a1 a2 s) (fun τ => KV 88 4 v0 τ.2) := by
  unfold F_X12_visit
  refine pk_b1 pk_top (fun _ _ => ?_)
  refine pk_ite ?_ ?_
  · exact (K_X12_visit_17 h)
  · refine pk_b1 pk_top (fun _ _ => ?_)
    refine pk_ite ?_ ?_
    · exact (K_X12_visit_17 h)
    · refine pk_b2 (K_X12_sureOf h) (fun _ s_1 (h_2 : KV 88 4 v0 s_1) => ?_)
      exact (K_X12_visit_L34 h_2)
theorem K_X12_movesIn_36 {v0 : Int32} {x1 : Int32} {x3 : Int32} {y0 : Int32} {y2 : Int32} {s : mG} (h : KV 88 4 v0 s) : pk (F_X12_movesIn_36 x1 x3 y0 y2 s) (se (fun τ => KV 88 4 v0 τ.2.2.2) (fun τ => KV 88 4 v0 τ.2)) := by
  unfold F_X12_movesIn_36
  refine pk_nn ?_
  refine pk_b2 (K_X12_saysIn h) (fun _ s_1 (h_2 : KV 88 4 v0 s_1) => ?_)
  exact pk_some h_2
theorem K_X12_movesIn_B4 {v0 : Int32} {x1 : Int32} {x2 : Int32} {x3 : Int32} {s : mG} (h : KV 88 4 v0 s) : pk (F_X12_movesIn_B4 x1 x2 x3 s) (se (fun τ => KV 88 4 v0 τ.2.2.2) (fun τ => KV 88 4 v0 τ.2)) := by
  unfold F_X12_movesIn_B4
  refine pk_ite ?_ ?_
  · exact pk_some h
  · refine pk_nn ?_
    refine pk_ite ?_ ?_
    · exact (K_X12_movesIn_36 h)
    · exact (K_X12_movesIn_36 h)
theorem K_X12_movesIn_L4 {v0 : Int32} {x1 : Int32} {x2 : Int32} {x3 : Int32} {s : mG} (h : KV 88 4 v0 s) : pk (F_X12_movesIn_L4 x1 x2 x3 s) (fun τ => KV 88 4 v0 τ.2) := by
  unfold F_X12_movesIn_L4
  refine pk_whl (fun v => KV 88 4 v0 v.2.2.2) h (fun v hv => ?_)
  obtain ⟨y0, y1, y2, y3⟩ := v
  exact K_X12_movesIn_B4 hv
theorem K_X12_movesIn {v0 : Int32} {a1 : Int32} {s : mG} (h : KV 88 4 v0 s) : pk (F_X12_movesIn a1 s) (fun τ => KV 88 4 v0 τ.2) := by
  unfold F_X12_movesIn
  exact (K_X12_movesIn_L4 h)
theorem K_X12_expect {v0 : Int32} {s : mG} (h : KV 88 4 v0 s) : pk (F_X12_expect s) (fun τ => KV 88 4 v0 τ.2) := by
  unfold F_X12_expect
  refine pk_b2 (K_X12_movesIn h) (fun _ s_1 (h_2 : KV 88 4 v0 s_1) => ?_)
  exact pk_some h_2
theorem K_X12_busy_57 {v0 : Int32} {x1 : Int32} {x2 : Int32} {x3 : Int32} {x4 : Int32} {s : mG} (h : KV 88 4 v0 s) : pk (F_X12_busy_57 x1 x2 x3 x4 s) (se (fun τ => KV 88 4 v0 τ.2.2.2.2) (fun τ => KV 88 4 v0 τ.2)) := by
  unfold F_X12_busy_57
  exact pk_some h
theorem K_X12_busy_B29 {v0 : Int32} {x1 : Int32} {x2 : Int32} {x3 : Int32} {x4 : Int32} {s : mG} (h : KV 88 4 v0 s) : pk (F_X12_busy_B29 x1 x2 x3 x4 s) (se (fun τ => KV 88 4 v0 τ.2.2.2.2) (fun τ => KV 88 4 v0 τ.2)) := by
  unfold F_X12_busy_B29
  refine pk_ite ?_ ?_
  · refine pk_ite ?_ ?_
    · exact pk_some h
    · refine pk_b2 (K_X12_movesIn h) (fun _ s_1 (h_2 : KV 88 4 v0 s_1) => ?_)
      exact pk_some h_2
  · refine pk_b2 (K_X12_movesIn h) (fun _ s_3 (h_4 : KV 88 4 v0 s_3) => ?_)
    refine pk_b2 (K_X12_movesIn h_4) (fun _ s_5 (h_6 : KV 88 4 v0 s_5) => ?_)
    refine pk_ite ?_ ?_
    · exact (K_X12_busy_57 h_6)
    · exact (K_X12_busy_57 h_6)
theorem K_X12_busy_L29 {v0 : Int32} {x1 : Int32} {x2 : Int32} {x3 : Int32} {x4 : Int32} {s : mG} (h : KV 88 4 v0 s) : pk (F_X12_busy_L29 x1 x2 x3 x4 s) (fun τ => KV 88 4 v0 τ.2) := by
  unfold F_X12_busy_L29
  refine pk_whl (fun v => KV 88 4 v0 v.2.2.2.2) h (fun v hv => ?_)
  obtain ⟨y0, y1, y2, y3, y4⟩ := v
  exact K_X12_busy_B29 hv
theorem K_X12_busy {v0 : Int32} {a1 : Int32} {s : mG} (h : KV 88 4 v0 s) : pk (F_X12_busy a1 s) (fun τ => KV 88 4 v0 τ.2) := by
  unfold F_X12_busy
  refine pk_b1 pk_top (fun _ _ => ?_)
  refine pk_ite ?_ ?_
  · exact pk_some h
  · extract_lets +onlyGivenNames v_1
    clear_value v_1
    exact (K_X12_busy_L29 h)
theorem K_X12_lack_80 {v0 : Int32} {x1 : Int32} {x2 : Int32} {x3 : Int32} {x4 : Int64} {x6 : Int32} {s : mG} (h : KV 88 4 v0 s) : pk (F_X12_lack_80 x1 x2 x3 x4 x6 s) (se (fun τ => KV 88 4 v0 τ.2.2.2.2.2) (fun τ => KV 88 4 v0 τ.2)) := by
  unfold F_X12_lack_80
  exact pk_some h
theorem K_X12_lack_B21 {v0 : Int32} {x1 : Int32} {x2 : Int32} {x3 : Int32} {x4 : Int64} {x6 : Int32} {s : mG} (h : KV 88 4 v0 s) : pk (F_X12_lack_B21 x1 x2 x3 x4 x6 s) (se (fun τ => KV 88 4 v0 τ.2.2.2.2.2) (fun τ => KV 88 4 v0 τ.2)) := by
  unfold F_X12_lack_B21
  refine pk_ite ?_ ?_
  · refine pk_ite ?_ ?_
    · exact pk_some h
    · refine pk_ite ?_ ?_
      · extract_lets +onlyGivenNames v_1
        clear_value v_1
        exact pk_some h
      · exact pk_some h
  · refine pk_nn ?_
    refine pk_ite ?_ ?_
    · refine pk_nn ?_
      extract_lets +onlyGivenNames v_2
      clear_value v_2
      refine pk_b2 (K_X12_sureOf h) (fun _ s_3 (h_4 : KV 88 4 v0 s_3) => ?_)
      extract_lets +onlyGivenNames v_5
      clear_value v_5
      exact (K_X12_lack_80 h_4)
    · exact (K_X12_lack_80 h)
theorem K_X12_lack_L21 {v0 : Int32} {x1 : Int32} {x2 : Int32} {x3 : Int32} {x4 : Int64} {x6 : Int32} {s : mG} (h : KV 88 4 v0 s) : pk (F_X12_lack_L21 x1 x2 x3 x4 x6 s) (fun τ => KV 88 4 v0 τ.2) := by
  unfold F_X12_lack_L21
  refine pk_whl (fun v => KV 88 4 v0 v.2.2.2.2.2) h (fun v hv => ?_)
  obtain ⟨y0, y1, y2, y3, y4, y5⟩ := v
  exact K_X12_lack_B21 hv
theorem K_X12_lack {v0 : Int32} {a1 : Int32} {s : mG} (h : KV 88 4 v0 s) : pk (F_X12_lack a1 s) (fun τ => KV 88 4 v0 τ.2) := by
  unfold F_X12_lack
  refine pk_b1 pk_top (fun _ _ => ?_)
  refine pk_ite ?_ ?_
  · exact pk_some h
  · exact (K_X12_lack_L21 h)
theorem K_X12_empty_64 {v0 : Int32} {x1 : Int32} {x4 : Int32} {y0 : Int64} {s : mG} (h : KV 88 4 v0 s) : pk (F_X12_empty_64 x1 x4 y0 s) (se (fun τ => KV 88 4 v0 τ.2.2.2) (fun τ => KV 88 4 v0 τ.2)) := by
  unfold F_X12_empty_64
  exact pk_some h
theorem K_X12_empty_B18 {v0 : Int32} {x1 : Int32} {x2 : Int64} {x4 : Int32} {s : mG} (h : KV 88 4 v0 s) : pk (F_X12_empty_B18 x1 x2 x4 s) (se (fun τ => KV 88 4 v0 τ.2.2.2) (fun τ => KV 88 4 v0 τ.2)) := by
  unfold F_X12_empty_B18
  refine pk_ite ?_ ?_
  · exact pk_some h
  · refine pk_nn ?_
    refine pk_ite ?_ ?_
    · refine pk_b2 (K_X12_sureOf h) (fun _ s_1 (h_2 : KV 88 4 v0 s_1) => ?_)
      exact (K_X12_empty_64 h_2)
    · exact (K_X12_empty_64 h)
theorem K_X12_empty_L18 {v0 : Int32} {x1 : Int32} {x2 : Int64} {x4 : Int32} {s : mG} (h : KV 88 4 v0 s) : pk (F_X12_empty_L18 x1 x2 x4 s) (fun τ => KV 88 4 v0 τ.2) := by
  unfold F_X12_empty_L18
  refine pk_whl (fun v => KV 88 4 v0 v.2.2.2) h (fun v hv => ?_)
  obtain ⟨y0, y1, y2, y3⟩ := v
  exact K_X12_empty_B18 hv
theorem K_X12_empty {v0 : Int32} {a1 : Int32} {s : mG} (h : KV 88 4 v0 s) : pk (F_X12_empty a1 s) (fun τ => KV 88 4 v0 τ.2) := by
  unfold F_X12_empty
  refine pk_b1 pk_top (fun _ _ => ?_)
  refine pk_ite ?_ ?_
  · exact pk_some h
  · exact (K_X12_empty_L18 h)
theorem K_X12_isKnockedAhead_42 {v0 : Int32} {s : mG} (h : KV 88 4 v0 s) : pk (F_X12_isKnockedAhead_42 s) (fun τ => KV 88 4 v0 τ.2) := by
  unfold F_X12_isKnockedAhead_42
  exact pk_some h
theorem K_X12_isKnockedAhead_46 {v0 : Int32} {s : mG} (h : KV 88 4 v0 s) : pk (F_X12_isKnockedAhead_46 s) (fun τ => KV 88 4 v0 τ.2) := by
  unfold F_X12_isKnockedAhead_46
  exact pk_some h
theorem K_X12_isKnockedAhead {v0 : Int32} {a1 : Int32} {a2 : Int32} {s : mG} (h : KV 88 4 v0 s) : pk (F_X12_isKnockedAhead a1 a2 s) (fun τ => KV 88 4 v0 τ.2) := by
  unfold F_X12_isKnockedAhead
  refine pk_b1 pk_top (fun _ _ => ?_)
  refine pk_b2 (K_X12_sureOf h) (fun _ s_1 (h_2 : KV 88 4 v0 s_1) => ?_)
  refine pk_b1 pk_top (fun _ _ => ?_)
  refine pk_b2 (K_X12_sureOf h_2) (fun _ s_3 (h_4 : KV 88 4 v0 s_3) => ?_)
  refine pk_ite ?_ ?_
  · exact (K_X12_isKnockedAhead_42 h_4)
  · refine pk_ite ?_ ?_
    · refine pk_ite ?_ ?_
      · exact (K_X12_isKnockedAhead_46 h_4)
      · exact (K_X12_isKnockedAhead_42 h_4)
    · exact (K_X12_isKnockedAhead_46 h_4)
theorem K_X12_knocks_52 {v0 : Int32} {x1 : Int32} {x2 : Int32} {x4 : Int32} {y0 : Int32} {y1 : Int32} {s : mG} (h : KV 88 4 v0 s) : pk (F_X12_knocks_52 x1 x2 x4 y0 y1 s) (se (fun τ => KV 88 4 v0 τ.2.2.2.2) (se (fun τ => KV 88 4 v0 τ.2.2) (fun τ => KV 88 4 v0 τ.2))) := by
  unfold F_X12_knocks_52
  exact pk_some h
theorem K_X12_knocks_51 {v0 : Int32} {x1 : Int32} {x2 : Int32} {x4 : Int32} {y0 : Int32} {s : mG} (h : KV 88 4 v0 s) : pk (F_X12_knocks_51 x1 x2 x4 y0 s) (se (fun τ => KV 88 4 v0 τ.2.2.2.2) (se (fun τ => KV 88 4 v0 τ.2.2) (fun τ => KV 88 4 v0 τ.2))) := by
  unfold F_X12_knocks_51
  exact (K_X12_knocks_52 h)
theorem K_X12_knocks_B18 {v0 : Int32} {x1 : Int32} {x2 : Int32} {x3 : Int32} {x4 : Int32} {s : mG} (h : KV 88 4 v0 s) : pk (F_X12_knocks_B18 x1 x2 x3 x4 s) (se (fun τ => KV 88 4 v0 τ.2.2.2.2) (se (fun τ => KV 88 4 v0 τ.2.2) (fun τ => KV 88 4 v0 τ.2))) := by
  unfold F_X12_knocks_B18
  refine pk_ite ?_ ?_
  · refine pk_ite ?_ ?_
    · exact pk_some h
    · exact pk_some h
  · refine pk_ite ?_ ?_
    · exact (K_X12_knocks_51 h)
    · refine pk_b2 (K_X12_isKnockedAhead h) (fun _ s_1 (h_2 : KV 88 4 v0 s_1) => ?_)
      refine pk_ite ?_ ?_
      · exact (K_X12_knocks_51 h_2)
      · exact (K_X12_knocks_52 h_2)
theorem K_X12_knocks_L18 {v0 : Int32} {x1 : Int32} {x2 : Int32} {x3 : Int32} {x4 : Int32} {s : mG} (h : KV 88 4 v0 s) : pk (F_X12_knocks_L18 x1 x2 x3 x4 s) (se (fun τ => KV 88 4 v0 τ.2.2) (fun τ => KV 88 4 v0 τ.2)) := by
  unfold F_X12_knocks_L18
  refine pk_whl (fun v => KV 88 4 v0 v.2.2.2.2) h (fun v hv => ?_)
  obtain ⟨y0, y1, y2, y3, y4⟩ := v
  exact K_X12_knocks_B18 hv
theorem K_X12_knocks_B2 {v0 : Int32} {x1 : Int32} {x2 : Int32} {s : mG} (h : KV 88 4 v0 s) : pk (F_X12_knocks_B2 x1 x2 s) (se (fun τ => KV 88 4 v0 τ.2.2) (fun τ => KV 88 4 v0 τ.2)) := by
  unfold F_X12_knocks_B2
  refine pk_ite ?_ ?_
  · exact pk_some h
  · exact (K_X12_knocks_L18 h)
theorem K_X12_knocks_L2 {v0 : Int32} {x1 : Int32} {x2 : Int32} {s : mG} (h : KV 88 4 v0 s) : pk (F_X12_knocks_L2 x1 x2 s) (fun τ => KV 88 4 v0 τ.2) := by
  unfold F_X12_knocks_L2
  refine pk_whl (fun v => KV 88 4 v0 v.2.2) h (fun v hv => ?_)
  obtain ⟨y0, y1, y2⟩ := v
  exact K_X12_knocks_B2 hv
theorem K_X12_knocks {v0 : Int32} {a1 : Int32} {s : mG} (h : KV 88 4 v0 s) : pk (F_X12_knocks a1 s) (fun τ => KV 88 4 v0 τ.2) := by
  unfold F_X12_knocks
  exact (K_X12_knocks_L2 h)
theorem K_X12_room_67 {v0 : Int32} {s : mG} (h : KV 88 4 v0 s) : pk (F_X12_room_67 s) (fun τ => KV 88 4 v0 τ.2) := by
  unfold F_X12_room_67
  exact pk_some h
theorem K_X12_room {v0 : Int32} {a1 : Int32} {a2 : Int32} {a3 : Int32} {a4 : Int32} {s : mG} (h : KV 88 4 v0 s) : pk (F_X12_room a1 a2 a3 a4 s) (fun τ => KV 88 4 v0 τ.2) := by
  unfold F_X12_room
  refine pk_ite ?_ ?_
  · extract_lets +onlyGivenNames s_1
    have h_2 : KV 88 4 v0 s_1 := KV_mu h (Or.inl (by decide))
    clear_value s_1
    exact pk_some h_2
  · refine pk_b1 pk_top (fun _ _ => ?_)
    refine pk_ite ?_ ?_
    · exact (K_X12_room_67 h)
    · refine pk_b1 pk_top (fun _ _ => ?_)
      refine pk_ite ?_ ?_
      · exact (K_X12_room_67 h)
      · refine pk_b1 pk_top (fun _ _ => ?_)
        refine pk_ite ?_ ?_
        · exact (K_X12_room_67 h)
        · refine pk_b1 pk_top (fun _ _ => ?_)
          refine pk_ite ?_ ?_
          · exact (K_X12_room_67 h)
          · refine pk_ite ?_ ?_
            · exact (K_X12_room_67 h)
            · extract_lets +onlyGivenNames v_3
              clear_value v_3
              refine pk_nn ?_
              extract_lets +onlyGivenNames s_4
              have h_5 : KV 88 4 v0 s_4 := KV_mu h (Or.inl (by decide))
              clear_value s_4
              refine pk_nn ?_
              extract_lets +onlyGivenNames s_6
              have h_7 : KV 88 4 v0 s_6 := KV_mu h_5 (Or.inl (by decide))
              clear_value s_6
              refine pk_nn ?_
              extract_lets +onlyGivenNames s_8
              have h_9 : KV 88 4 v0 s_8 := KV_mu h_7 (Or.inl (by decide))
              clear_value s_8
              refine pk_nn ?_
              extract_lets +onlyGivenNames s_10
              have h_11 : KV 88 4 v0 s_10 := KV_mu h_9 (Or.inl (by decide))
              clear_value s_10
              extract_lets +onlyGivenNames s_12
              have h_13 : KV 88 4 v0 s_12 := KV_mu h_11 (Or.inl (by decide))
              clear_value s_12
              exact pk_some h_13
theorem K_X12_laysFloors_B22 {v0 : Int32} {x1 : Int32} {s : mG} (h : KV 88 4 v0 s) : pk (F_X12_laysFloors_B22 x1 s) (se (fun τ => KV 88 4 v0 τ.2) (fun τ => KV 88 4 v0 τ)) := by
  unfold F_X12_laysFloors_B22
  refine pk_ite ?_ ?_
  · exact pk_some h
  · refine pk_nn ?_
    extract_lets +onlyGivenNames v_1
    clear_value v_1
    refine pk_nn ?_
    refine pk_b2 (K_X12_sureOf h) (fun _ s_2 (h_3 : KV 88 4 v0 s_2) => ?_)
    refine pk_nn ?_
    extract_lets +onlyGivenNames s_4
    have h_5 : KV 88 4 v0 s_4 := h_3
    clear_value s_4
    exact pk_some h_5
theorem K_X12_laysFloors_L22 {v0 : Int32} {x1 : Int32} {s : mG} (h : KV 88 4 v0 s) : pk (F_X12_laysFloors_L22 x1 s) (fun τ => KV 88 4 v0 τ) := by
  unfold F_X12_laysFloors_L22
  refine pk_whl (fun v => KV 88 4 v0 v.2) h (fun v hv => ?_)
  obtain ⟨y0, y1⟩ := v
  exact K_X12_laysFloors_B22 hv
theorem K_X12_laysFloors_B2 {v0 : Int32} {x1 : Int32} {s : mG} (h : KV 88 4 v0 s) : pk (F_X12_laysFloors_B2 x1 s) (se (fun τ => KV 88 4 v0 τ.2) (fun τ => KV 88 4 v0 τ)) := by
  unfold F_X12_laysFloors_B2
  refine pk_ite ?_ ?_
  · refine pk_b1r ?_
    exact (K_X12_laysFloors_L22 h)
  · refine pk_nn ?_
    extract_lets +onlyGivenNames s_1
    have h_2 : KV 88 4 v0 s_1 := h
    clear_value s_1
    exact pk_some h_2
theorem K_X12_laysFloors_L2 {v0 : Int32} {x1 : Int32} {s : mG} (h : KV 88 4 v0 s) : pk (F_X12_laysFloors_L2 x1 s) (fun τ => KV 88 4 v0 τ) := by
  unfold F_X12_laysFloors_L2
  refine pk_whl (fun v => KV 88 4 v0 v.2) h (fun v hv => ?_)
  obtain ⟨y0, y1⟩ := v
  exact K_X12_laysFloors_B2 hv
theorem K_X12_laysFloors {v0 : Int32} {s : mG} (h : KV 88 4 v0 s) : pk (F_X12_laysFloors s) (fun τ => KV 88 4 v0 τ) := by
  unfold F_X12_laysFloors
  exact (K_X12_laysFloors_L2 h)
theorem K_X12_searches_169 {v0 : Int32} {rec : Int32 → Int32 → Int32 → Int64 → mG → Option (mG)} {x1 : Int32} {x2 : Int32} {x3 : Int32} {x4 : Int64} {x6 : Int32} {s : mG} (hrec : ∀ (b0 : Int32) (b1 : Int32) (b2 : Int32) (b3 : Int64) (r : mG), KV 88 4 v0 r → pk (rec b0 b1 b2 b3 r) (fun τ => KV 88 4 v0 τ)) (h : KV 88 4 v0 s) : pk (F_X12_searches_169 rec x1 x2 x3 x4 x6 s) (se (fun τ => KV 88 4 v0 τ.2.2.2.2.2) (fun τ => KV 88 4 v0 τ)) := by
  unfold F_X12_searches_169
  exact pk_some h
theorem K_X12_searches_120 {v0 : Int32} {rec : Int32 → Int32 → Int32 → Int64 → mG → Option (mG)} {x1 : Int32} {x2 : Int32} {x3 : Int32} {x4 : Int64} {x6 : Int32} {x7 : Int32} {y0 : Int32} {y1 : Int32} {y2 : Int32} {s : mG} (hrec : ∀ (b0 : Int32) (b1 : Int32) (b2 : Int32) (b3 : Int64) (r : mG), KV 88 4 v0 r → pk (rec b0 b1 b2 b3 r) (fun τ => KV 88 4 v0 τ)) (h : KV 88 4 v0 s) : pk (F_X12_searches_120 rec x1 x2 x3 x4 x6 x7 y0 y1 y2 s) (se (fun τ => KV 88 4 v0 τ.2.2.2.2.2) (fun τ => KV 88 4 v0 τ)) := by
  unfold F_X12_searches_120
  refine pk_ite ?_ ?_
  · refine pk_ite ?_ ?_
    · refine pk_nn ?_
      extract_lets +onlyGivenNames s_1
      have h_2 : KV 88 4 v0 s_1 := KV_mu h (Or.inl (by decide))
      clear_value s_1
      refine pk_nn ?_
      refine pk_b1 (hrec _ _ _ _ _ h_2) (fun s_3 (h_4 : KV 88 4 v0 s_3) => ?_)
      exact (K_X12_searches_169 hrec h_4)
    · exact (K_X12_searches_169 hrec h)
  · exact (K_X12_searches_169 hrec h)
theorem K_X12_searches_93 {v0 : Int32} {rec : Int32 → Int32 → Int32 → Int64 → mG → Option (mG)} {x1 : Int32} {x2 : Int32} {x3 : Int32} {x4 : Int64} {x6 : Int32} {x8 : Int32} {y0 : Int32} {s : mG} (hrec : ∀ (b0 : Int32) (b1 : Int32) (b2 : Int32) (b3 : Int64) (r : mG), KV 88 4 v0 r → pk (rec b0 b1 b2 b3 r) (fun τ => KV 88 4 v0 τ)) (h : KV 88 4 v0 s) : pk (F_X12_searches_93 rec x1 x2 x3 x4 x6 x8 y0 s) (se (fun τ => KV 88 4 v0 τ.2.2.2.2.2.2.2) (se (fun τ => KV 88 4 v0 τ.2.2.2.2.2) (fun τ => KV 88 4 v0 τ))) := by
  unfold F_X12_searches_93
  exact pk_some h
theorem K_X12_searches_88 {v0 : Int32} {rec : Int32 → Int32 → Int32 → Int64 → mG → Option (mG)} {x1 : Int32} {x2 : Int32} {x3 : Int32} {x4 : Int64} {x6 : Int32} {x8 : Int32} {s : mG} (hrec : ∀ (b0 : Int32) (b1 : Int32) (b2 : Int32) (b3 : Int64) (r : mG), KV 88 4 v0 r → pk (rec b0 b1 b2 b3 r) (fun τ => KV 88 4 v0 τ)) (h : KV 88 4 v0 s) : pk (F_X12_searches_88 rec x1 x2 x3 x4 x6 x8 s) (se (fun τ => KV 88 4 v0 τ.2.2.2.2.2.2.2) (se (fun τ => KV 88 4 v0 τ.2.2.2.2.2) (fun τ => KV 88 4 v0 τ))) := by
  unfold F_X12_searches_88
  exact (K_X12_searches_93 hrec h)
theorem K_X12_searches_B65 {v0 : Int32} {rec : Int32 → Int32 → Int32 → Int64 → mG → Option (mG)} {x1 : Int32} {x2 : Int32} {x3 : Int32} {x4 : Int64} {x6 : Int32} {x7 : Int32} {x8 : Int32} {s : mG} (hrec : ∀ (b0 : Int32) (b1 : Int32) (b2 : Int32) (b3 : Int64) (r : mG), KV 88 4 v0 r → pk (rec b0 b1 b2 b3 r) (fun τ => KV 88 4 v0 τ)) (h : KV 88 4 v0 s) : pk (F_X12_searches_B65 rec x1 x2 x3 x4 x6 x7 x8 s) (se (fun τ => KV 88 4 v0 τ.2.2.2.2.2.2.2) (se (fun τ => KV 88 4 v0 τ.2.2.2.2.2) (fun τ => KV 88 4 v0 τ))) := by
  unfold F_X12_searches_B65
  refine pk_ite ?_ ?_
  · refine pk_ite ?_ ?_
    · refine pk_b1r ?_
      exact (K_X12_searches_120 hrec h)
    · refine pk_b1r ?_
      exact (K_X12_searches_120 hrec h)
  · refine pk_ite ?_ ?_
    · refine pk_nn ?_
      refine pk_ite ?_ ?_
      · exact (K_X12_searches_88 hrec h)
      · exact (K_X12_searches_93 hrec h)
    · exact (K_X12_searches_88 hrec h)
theorem K_X12_searches_L65 {v0 : Int32} {rec : Int32 → Int32 → Int32 → Int64 → mG → Option (mG)} {x1 : Int32} {x2 : Int32} {x3 : Int32} {x4 : Int64} {x6 : Int32} {x7 : Int32} {x8 : Int32} {s : mG} (hrec : ∀ (b0 : Int32) (b1 : Int32) (b2 : Int32) (b3 : Int64) (r : mG), KV 88 4 v0 r → pk (rec b0 b1 b2 b3 r) (fun τ => KV 88 4 v0 τ)) (h : KV 88 4 v0 s) : pk (F_X12_searches_L65 rec x1 x2 x3 x4 x6 x7 x8 s) (se (fun τ => KV 88 4 v0 τ.2.2.2.2.2) (fun τ => KV 88 4 v0 τ)) := by
  unfold F_X12_searches_L65
  refine pk_whl (fun v => KV 88 4 v0 v.2.2.2.2.2.2.2) h (fun v hv => ?_)
  obtain ⟨y0, y1, y2, y3, y4, y5, y6, y7⟩ := v
  exact K_X12_searches_B65 hrec hv
theorem K_X12_searches_B53 {v0 : Int32} {rec : Int32 → Int32 → Int32 → Int64 → mG → Option (mG)} {x1 : Int32} {x2 : Int32} {x3 : Int32} {x4 : Int64} {x6 : Int32} {s : mG} (hrec : ∀ (b0 : Int32) (b1 : Int32) (b2 : Int32) (b3 : Int64) (r : mG), KV 88 4 v0 r → pk (rec b0 b1 b2 b3 r) (fun τ => KV 88 4 v0 τ)) (h : KV 88 4 v0 s) : pk (F_X12_searches_B53 rec x1 x2 x3 x4 x6 s) (se (fun τ => KV 88 4 v0 τ.2.2.2.2.2) (fun τ => KV 88 4 v0 τ)) := by
  unfold F_X12_searches_B53
  refine pk_ite ?_ ?_
  · exact pk_some h
  · exact (K_X12_searches_L65 hrec h)
theorem K_X12_searches_L53 {v0 : Int32} {rec : Int32 → Int32 → Int32 → Int64 → mG → Option (mG)} {x1 : Int32} {x2 : Int32} {x3 : Int32} {x4 : Int64} {x6 : Int32} {s : mG} (hrec : ∀ (b0 : Int32) (b1 : Int32) (b2 : Int32) (b3 : Int64) (r : mG), KV 88 4 v0 r → pk (rec b0 b1 b2 b3 r) (fun τ => KV 88 4 v0 τ)) (h : KV 88 4 v0 s) : pk (F_X12_searches_L53 rec x1 x2 x3 x4 x6 s) (fun τ => KV 88 4 v0 τ) := by
  unfold F_X12_searches_L53
  refine pk_whl (fun v => KV 88 4 v0 v.2.2.2.2.2) h (fun v hv => ?_)
  obtain ⟨y0, y1, y2, y3, y4, y5⟩ := v
  exact K_X12_searches_B53 hrec hv
theorem K_X12_searches_50 {v0 : Int32} {rec : Int32 → Int32 → Int32 → Int64 → mG → Option (mG)} {x1 : Int32} {x2 : Int32} {x3 : Int32} {x4 : Int64} {s : mG} (hrec : ∀ (b0 : Int32) (b1 : Int32) (b2 : Int32) (b3 : Int64) (r : mG), KV 88 4 v0 r → pk (rec b0 b1 b2 b3 r) (fun τ => KV 88 4 v0 τ)) (h : KV 88 4 v0 s) : pk (F_X12_searches_50 rec x1 x2 x3 x4 s) (fun τ => KV 88 4 v0 τ) := by
  unfold F_X12_searches_50
  exact (K_X12_searches_L53 hrec h)
theorem K_X12_searches_B24 {v0 : Int32} {rec : Int32 → Int32 → Int32 → Int64 → mG → Option (mG)} {x1 : Int32} {x2 : Int32} {x3 : Int32} {x4 : Int64} {x6 : Int32} {s : mG} (hrec : ∀ (b0 : Int32) (b1 : Int32) (b2 : Int32) (b3 : Int64) (r : mG), KV 88 4 v0 r → pk (rec b0 b1 b2 b3 r) (fun τ => KV 88 4 v0 τ)) (h : KV 88 4 v0 s) : pk (F_X12_searches_B24 rec x1 x2 x3 x4 x6 s) (se (fun τ => KV 88 4 v0 τ.2.2.2.2.2) (fun τ => KV 88 4 v0 τ)) := by
  unfold F_X12_searches_B24
  refine pk_ite ?_ ?_
  · refine pk_b1r ?_
    exact (K_X12_searches_50 hrec h)
  · refine pk_nn ?_
    refine pk_nn ?_
    extract_lets +onlyGivenNames s_1
    have h_2 : KV 88 4 v0 s_1 := KV_mu h (Or.inl (by decide))
    clear_value s_1
    exact pk_some h_2
theorem K_X12_searches_L24 {v0 : Int32} {rec : Int32 → Int32 → Int32 → Int64 → mG → Option (mG)} {x1 : Int32} {x2 : Int32} {x3 : Int32} {x4 : Int64} {x6 : Int32} {s : mG} (hrec : ∀ (b0 : Int32) (b1 : Int32) (b2 : Int32) (b3 : Int64) (r : mG), KV 88 4 v0 r → pk (rec b0 b1 b2 b3 r) (fun τ => KV 88 4 v0 τ)) (h : KV 88 4 v0 s) : pk (F_X12_searches_L24 rec x1 x2 x3 x4 x6 s) (fun τ => KV 88 4 v0 τ) := by
  unfold F_X12_searches_L24
  refine pk_whl (fun v => KV 88 4 v0 v.2.2.2.2.2) h (fun v hv => ?_)
  obtain ⟨y0, y1, y2, y3, y4, y5⟩ := v
  exact K_X12_searches_B24 hrec hv
theorem K_X12_searches {v0 : Int32} {rec : Int32 → Int32 → Int32 → Int64 → mG → Option (mG)} {a1 : Int32} {a2 : Int32} {a3 : Int32} {a4 : Int64} {s : mG} (hrec : ∀ (b0 : Int32) (b1 : Int32) (b2 : Int32) (b3 : Int64) (r : mG), KV 88 4 v0 r → pk (rec b0 b1 b2 b3 r) (fun τ => KV 88 4 v0 τ)) (h : KV 88 4 v0 s) : pk (F_X12_searches rec a1 a2 a3 a4 s) (fun τ => KV 88 4 v0 τ) := by
  unfold F_X12_searches
  refine pk_ite ?_ ?_
  · exact (K_X12_searches_50 hrec h)
  · extract_lets +onlyGivenNames s_1
    have h_2 : KV 88 4 v0 s_1 := h
    clear_value s_1
    extract_lets +onlyGivenNames s_3
    have h_4 : KV 88 4 v0 s_3 := KV_mu h_2 (Or.inr (by decide))
    clear_value s_3
    exact (K_X12_searches_L24 hrec h_4)
theorem K_Q_X12_searches {v0 : Int32} : ∀ (n : Nat) (a0 : Int32) (a1 : Int32) (a2 : Int32) (a3 : Int64) (s : mG), KV 88 4 v0 s → pk (Q_X12_searches n a0 a1 a2 a3 s) (fun τ => KV 88 4 v0 τ)
  | 0, _, _, _, _, _, _ => pk_none
  | n + 1, _, _, _, _, _, h => K_X12_searches (fun a0 a1 a2 a3 s h => K_Q_X12_searches n a0 a1 a2 a3 s h) h
theorem K_R_X12_searches {v0 : Int32} {a0 : Int32} {a1 : Int32} {a2 : Int32} {a3 : Int64} {s : mG} (h : KV 88 4 v0 s) : pk (R_X12_searches a0 a1 a2 a3 s) (fun τ => KV 88 4 v0 τ) := K_Q_X12_searches 5 a0 a1 a2 a3 s h
theorem K_X12_fire_30 {v0 : Int32} {s : mG} (h : KV 88 4 v0 s) : pk (F_X12_fire_30 s) (fun τ => KV 88 4 v0 τ.2) := by
  unfold F_X12_fire_30
  exact pk_some h
theorem K_X12_fire_32 {v0 : Int32} {x1 : Int32} {x2 : Int32} {s : mG} (h : KV 88 4 v0 s) : pk (F_X12_fire_32 x1 x2 s) (fun τ => KV 88 4 v0 τ.2) := by
  unfold F_X12_fire_32
  refine pk_b1 (K_X12_laysFloors h) (fun s_1 (h_2 : KV 88 4 v0 s_1) => ?_)
  extract_lets +onlyGivenNames s_3
  have h_4 : KV 88 4 v0 s_3 := h_2
  clear_value s_3
  refine pk_b1 (K_X12_searches (fun _ _ _ _ _ h => K_R_X12_searches h) h_4) (fun s_5 (h_6 : KV 88 4 v0 s_5) => ?_)
  refine pk_ite ?_ ?_
  · extract_lets +onlyGivenNames v_7
    clear_value v_7
    exact pk_some h_6
  · refine pk_ite ?_ ?_
    · exact pk_some h_6
    · refine pk_ite ?_ ?_
      · exact pk_some h_6
      · refine pk_nn ?_
        extract_lets +onlyGivenNames v_8
        clear_value v_8
        exact pk_some h_6
end
