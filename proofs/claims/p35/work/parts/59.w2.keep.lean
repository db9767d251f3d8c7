/-! 59.w2.keep -/
section
noncomputable section
theorem K_X11_visit_20 {v0 : Int32} {s : mG} (h : KV 0 2 v0 s) : pk (F_X11_visit_20 s) (fun τ => KV 0 2 v0 τ.2) := by
  unfold F_X11_visit_20
  exact pk_some h
theorem K_X11_visit_45 {v0 : Int32} {y1 : Int32} {y2 : Int32} {y3 : Int32} {s : mG} (h : KV 0 2 v0 s) : pk (F_X11_visit_45 y1 y2 y3 s) (fun τ => KV 0 2 v0 τ.2) := by
  unfold F_X11_visit_45
  refine pk_b2 (K_X1_bestVisit h) (fun _ s_1 (h_2 : KV 0 2 v0 s_1) => ?_)
  exact pk_some h_2
theorem K_X11_visit {v0 : Int32} {a1 : Int32} {a2 : Int32} {s : mG} (h : KV 0 2 v0 s) : pk (F_X11_visit a1 a2 s) (fun τ => KV 0 2 v0 τ.2) := by
  unfold F_X11_visit
  refine pk_b1 pk_top (fun _ _ => ?_)
  refine pk_ite ?_ ?_
  · exact (K_X11_visit_20 h)
  · refine pk_b1 pk_top (fun _ _ => ?_)
    refine pk_ite ?_ ?_
    · exact (K_X11_visit_20 h)
    · refine pk_b2 (K_X0_sureOf h) (fun _ s_1 (h_2 : KV 0 2 v0 s_1) => ?_)
      refine pk_ite ?_ ?_
      · exact (K_X11_visit_45 h_2)
      · exact (K_X11_visit_45 h_2)
theorem K_X11_expect {v0 : Int32} {s : mG} (h : KV 0 2 v0 s) : pk (F_X11_expect s) (fun τ => KV 0 2 v0 τ.2) := by
  unfold F_X11_expect
  refine pk_b2 (K_X1_movesNow h) (fun _ s_1 (h_2 : KV 0 2 v0 s_1) => ?_)
  exact pk_some h_2
theorem K_X11_busy {v0 : Int32} {a1 : Int32} {s : mG} (h : KV 0 2 v0 s) : pk (F_X11_busy a1 s) (fun τ => KV 0 2 v0 τ.2) := by
  unfold F_X11_busy
  refine pk_ite ?_ ?_
  · refine pk_b2 (K_X1_busiestClock h) (fun _ s_1 (h_2 : KV 0 2 v0 s_1) => ?_)
    exact pk_some h_2
  · refine pk_ite ?_ ?_
    · refine pk_b2 (K_X1_busiestClock h) (fun _ s_3 (h_4 : KV 0 2 v0 s_3) => ?_)
      refine pk_b2 (K_X1_movesAt h_4) (fun _ s_5 (h_6 : KV 0 2 v0 s_5) => ?_)
      exact pk_some h_6
    · exact pk_some h
theorem K_X11_tagCost_32 {v0 : Int32} {s : mG} (h : KV 0 2 v0 s) : pk (F_X11_tagCost_32 s) (fun τ => KV 0 2 v0 τ.2) := by
  unfold F_X11_tagCost_32
  exact pk_some h
theorem K_X11_tagCost {v0 : Int32} {a1 : Int32} {a2 : Int32} {a3 : Int32} {s : mG} (h : KV 0 2 v0 s) : pk (F_X11_tagCost a1 a2 a3 s) (fun τ => KV 0 2 v0 τ.2) := by
  unfold F_X11_tagCost
  refine pk_b1 pk_top (fun _ _ => ?_)
  refine pk_ite ?_ ?_
  · exact (K_X11_tagCost_32 h)
  · refine pk_b1 pk_top (fun _ _ => ?_)
    refine pk_ite ?_ ?_
    · exact (K_X11_tagCost_32 h)
    · refine pk_b1 pk_top (fun _ _ => ?_)
      refine pk_ite ?_ ?_
      · exact (K_X11_tagCost_32 h)
      · refine pk_b2 (K_X1_costOfTag h) (fun _ s_1 (h_2 : KV 0 2 v0 s_1) => ?_)
        exact pk_some h_2
theorem K_X11_tag_22 {v0 : Int32} {s : mG} (h : KV 0 2 v0 s) : pk (F_X11_tag_22 s) (fun τ => KV 0 2 v0 τ.2) := by
  unfold F_X11_tag_22
  exact pk_some h
theorem K_X11_tag {v0 : Int32} {a1 : Int32} {a2 : Int32} {s : mG} (h : KV 0 2 v0 s) : pk (F_X11_tag a1 a2 s) (fun τ => KV 0 2 v0 τ.2) := by
  unfold F_X11_tag
  refine pk_b1 pk_top (fun _ _ => ?_)
  refine pk_ite ?_ ?_
  · exact (K_X11_tag_22 h)
  · refine pk_b1 pk_top (fun _ _ => ?_)
    refine pk_ite ?_ ?_
    · exact (K_X11_tag_22 h)
    · refine pk_b2 (K_X1_bestTag h) (fun _ s_1 (h_2 : KV 0 2 v0 s_1) => ?_)
      exact pk_some h_2
theorem K_X11_stands_26 {v0 : Int32} {s : mG} (h : KV 0 2 v0 s) : pk (F_X11_stands_26 s) (fun τ => KV 0 2 v0 τ.2) := by
  unfold F_X11_stands_26
  exact pk_some h
theorem K_X11_stands_28 {v0 : Int32} {x1 : Int32} {x2 : Int32} {s : mG} (h : KV 0 2 v0 s) : pk (F_X11_stands_28 x1 x2 s) (fun τ => KV 0 2 v0 τ.2) := by
  unfold F_X11_stands_28
  refine pk_b1 (K_X1_plan h) (fun s_1 (h_2 : KV 0 2 v0 s_1) => ?_)
  refine pk_ite ?_ ?_
  · refine pk_b1 pk_top (fun _ _ => ?_)
    exact pk_some h_2
  · refine pk_b1 pk_top (fun _ _ => ?_)
    exact pk_some h_2
theorem K_X11_stands {v0 : Int32} {a1 : Int32} {a2 : Int32} {s : mG} (h : KV 0 2 v0 s) : pk (F_X11_stands a1 a2 s) (fun τ => KV 0 2 v0 τ.2) := by
  unfold F_X11_stands
  refine pk_b1 pk_top (fun _ _ => ?_)
  refine pk_ite ?_ ?_
  · exact (K_X11_stands_26 h)
  · refine pk_ite ?_ ?_
    · exact (K_X11_stands_28 h)
    · refine pk_b1 pk_top (fun _ _ => ?_)
      refine pk_ite ?_ ?_
      · exact (K_X11_stands_26 h)
      · exact (K_X11_stands_28 h)
theorem K_X11_carries {v0 : Int32} {s : mG} (h : KV 0 2 v0 s) : pk (F_X11_carries s) (fun τ => KV 0 2 v0 τ.2) := by
  unfold F_X11_carries
  refine pk_b2 (K_X1_likeliestToCarry h) (fun _ s_1 (h_2 : KV 0 2 v0 s_1) => ?_)
  exact pk_some h_2
theorem K_X11_away_32 {v0 : Int32} {s : mG} (h : KV 0 2 v0 s) : pk (F_X11_away_32 s) (fun τ => KV 0 2 v0 τ.2) := by
  unfold F_X11_away_32
  exact pk_some h
theorem K_X11_away {v0 : Int32} {a1 : Int32} {a2 : Int32} {s : mG} (h : KV 0 2 v0 s) : pk (F_X11_away a1 a2 s) (fun τ => KV 0 2 v0 τ.2) := by
  unfold F_X11_away
  refine pk_b1 pk_top (fun _ _ => ?_)
  refine pk_ite ?_ ?_
  · exact (K_X11_away_32 h)
  · refine pk_b1 pk_top (fun _ _ => ?_)
    refine pk_ite ?_ ?_
    · exact (K_X11_away_32 h)
    · refine pk_b1 pk_top (fun _ _ => ?_)
      refine pk_ite ?_ ?_
      · exact (K_X11_away_32 h)
      · refine pk_b2 (K_X1_stillOut h) (fun _ s_1 (h_2 : KV 0 2 v0 s_1) => ?_)
        exact pk_some h_2
theorem K_X11_knocks {v0 : Int32} {a1 : Int32} {s : mG} (h : KV 0 2 v0 s) : pk (F_X11_knocks a1 s) (fun τ => KV 0 2 v0 τ.2) := by
  unfold F_X11_knocks
  refine pk_b2 (K_X9_roomAt h) (fun _ s_1 (h_2 : KV 0 2 v0 s_1) => ?_)
  exact pk_some h_2
theorem K_X11_fire_87 {v0 : Int32} {s : mG} (h : KV 0 2 v0 s) : pk (F_X11_fire_87 s) (fun τ => KV 0 2 v0 τ.2) := by
  unfold F_X11_fire_87
  exact pk_some h
theorem K_X11_fire {v0 : Int32} {a1 : Int32} {a2 : Int32} {s : mG} (h : KV 0 2 v0 s) : pk (F_X11_fire a1 a2 s) (fun τ => KV 0 2 v0 τ.2) := by
  unfold F_X11_fire
  refine pk_b1 pk_top (fun _ _ => ?_)
  refine pk_ite ?_ ?_
  · exact pk_some h
  · refine pk_b1 (K_X9_searchFloors h) (fun s_1 (h_2 : KV 0 2 v0 s_1) => ?_)
    refine pk_ite ?_ ?_
    · extract_lets +onlyGivenNames v_3
      clear_value v_3
      exact pk_some h_2
    · refine pk_ite ?_ ?_
      · exact pk_some h_2
      · refine pk_ite ?_ ?_
        · exact (K_X11_fire_87 h_2)
        · refine pk_ite ?_ ?_
          · exact (K_X11_fire_87 h_2)
          · refine pk_b1 pk_top (fun _ _ => ?_)
            exact pk_some h_2
theorem K_X12_forgets {v0 : Int32} {s : mG} (h : KV 88 4 v0 s) : pk (F_X12_forgets s) (fun τ => KV 88 4 v0 τ) := by
  unfold F_X12_forgets
  extract_lets +onlyGivenNames s_1
  have h_2 : KV 88 4 v0 s_1 := KV_mu h (Or.inr (by decide))
  clear_value s_1
  exact pk_some h_2
theorem K_X12_state {v0 : Int32} {a1 : Int32} {s : mG} (h : KV 88 4 v0 s) : pk (F_X12_state a1 s) (fun τ => KV 88 4 v0 τ.2) := by
  unfold F_X12_state
  extract_lets +onlyGivenNames s_1
  have h_2 : KV 88 4 v0 s_1 := KV_mu h (Or.inl (by decide))
  clear_value s_1
  refine pk_b1 (K_X12_forgets h_2) (fun s_3 (h_4 : KV 88 4 v0 s_3) => ?_)
  exact pk_some h_4
theorem K_X12_draw {v0 : Int32} {a1 : Int32} {s : mG} (h : KV 88 4 v0 s) : pk (F_X12_draw a1 s) (fun τ => KV 88 4 v0 τ.2) := by
  unfold F_X12_draw
  extract_lets +onlyGivenNames s_1
  have h_2 : KV 88 4 v0 s_1 := KV_mu h (Or.inl (by decide))
  clear_value s_1
  refine pk_nn ?_
  extract_lets +onlyGivenNames v_3
  clear_value v_3
  exact pk_some h_2
theorem K_X12_guest_31 {v0 : Int32} {s : mG} (h : KV 88 4 v0 s) : pk (F_X12_guest_31 s) (fun τ => KV 88 4 v0 τ.2) := by
  unfold F_X12_guest_31
  exact pk_some h
theorem K_X12_guest_B94 {v0 : Int32} {x3 : Int32} {x4 : Int32} {s : mG} (h : KV 88 4 v0 s) : pk (F_X12_guest_B94 x3 x4 s) (se (fun τ => KV 88 4 v0 τ.2.2) (fun τ => KV 88 4 v0 τ.2)) := by
  unfold F_X12_guest_B94
  refine pk_ite ?_ ?_
  · extract_lets +onlyGivenNames s_1
    have h_2 : KV 88 4 v0 s_1 := KV_mu h (Or.inl (by decide))
    clear_value s_1
    refine pk_b1 (K_X12_forgets h_2) (fun s_3 (h_4 : KV 88 4 v0 s_3) => ?_)
    exact pk_some h_4
  · refine pk_nn ?_
    extract_lets +onlyGivenNames s_5
    have h_6 : KV 88 4 v0 s_5 := KV_mu h (Or.inl (by decide))
    clear_value s_5
    exact pk_some h_6
theorem K_X12_guest_L94 {v0 : Int32} {x3 : Int32} {x4 : Int32} {s : mG} (h : KV 88 4 v0 s) : pk (F_X12_guest_L94 x3 x4 s) (fun τ => KV 88 4 v0 τ.2) := by
  unfold F_X12_guest_L94
  refine pk_whl (fun v => KV 88 4 v0 v.2.2) h (fun v hv => ?_)
  obtain ⟨y0, y1, y2⟩ := v
  exact K_X12_guest_B94 hv
theorem K_X12_guest {v0 : Int32} {a1 : Int32} {a2 : Int32} {s : mG} (h : KV 88 4 v0 s) : pk (F_X12_guest a1 a2 s) (fun τ => KV 88 4 v0 τ.2) := by
  unfold F_X12_guest
  refine pk_b1 pk_top (fun _ _ => ?_)
  refine pk_ite ?_ ?_
  · exact (K_X12_guest_31 h)
  · refine pk_b1 pk_top (fun _ _ => ?_)
    refine pk_ite ?_ ?_
    · exact (K_X12_guest_31 h)
    · refine pk_ite ?_ ?_
      · exact (K_X12_guest_31 h)
      · refine pk_nn ?_
        extract_lets +onlyGivenNames s_1
        have h_2 : KV 88 4 v0 s_1 := KV_mu h (Or.inl (by decide))
        clear_value s_1
        refine pk_nn ?_
        extract_lets +onlyGivenNames s_3
        have h_4 : KV 88 4 v0 s_3 := KV_mu h_2 (Or.inl (by decide))
        clear_value s_3
        refine pk_nn ?_
        extract_lets +onlyGivenNames s_5
        have h_6 : KV 88 4 v0 s_5 := KV_mu h_4 (Or.inl (by decide))
        clear_value s_5
        refine pk_nn ?_
        extract_lets +onlyGivenNames s_7
        have h_8 : KV 88 4 v0 s_7 := KV_mu h_6 (Or.inl (by decide))
        clear_value s_7
        refine pk_nn ?_
        extract_lets +onlyGivenNames s_9
        have h_10 : KV 88 4 v0 s_9 := KV_mu h_8 (Or.inl (by decide))
        clear_value s_9
        exact (K_X12_guest_L94 h_10)
theorem K_X12_set_110 {v0 : Int32} {s : mG} (h : KV 88 4 v0 s) : pk (F_X12_set_110 s) (fun τ => KV 88 4 v0 τ.2) := by
  unfold F_X12_set_110
  refine pk_b1 (K_X12_forgets h) (fun s_1 (h_2 : KV 88 4 v0 s_1) => ?_)
  exact pk_some h_2
theorem K_X12_set_92 {v0 : Int32} {s : mG} (h : KV 88 4 v0 s) : pk (F_X12_set_92 s) (fun τ => KV 88 4 v0 τ.2) := by
  unfold F_X12_set_92
  exact pk_some h
theorem K_X12_set {v0 : Int32} {a1 : Int32} {a2 : Int32} {a3 : Int32} {s : mG} (h : KV 88 4 v0 s) : pk (F_X12_set a1 a2 a3 s) (fun τ => KV 88 4 v0 τ.2) := by
  unfold F_X12_set
  refine pk_ite ?_ ?_
  · refine pk_b1 pk_top (fun _ _ => ?_)
    refine pk_ite ?_ ?_
    · exact pk_some h
    · extract_lets +onlyGivenNames s_1
      have h_2 : KV 88 4 v0 s_1 := KV_mu h (Or.inl (by decide))
      clear_value s_1
      exact (K_X12_set_110 h_2)
  · refine pk_ite ?_ ?_
    · refine pk_b1 pk_top (fun _ _ => ?_)
      refine pk_ite ?_ ?_
      · exact pk_some h
      · extract_lets +onlyGivenNames s_3
        have h_4 : KV 88 4 v0 s_3 := KV_mu h (Or.inl (by decide))
        clear_value s_3
        exact (K_X12_set_110 h_4)
    · refine pk_ite ?_ ?_
      · refine pk_b1 pk_top (fun _ _ => ?_)
        refine pk_ite ?_ ?_
        · exact (K_X12_set_92 h)
        · refine pk_b1 pk_top (fun _ _ => ?_)
          refine pk_ite ?_ ?_
          · exact (K_X12_set_92 h)
          · refine pk_nn ?_
            extract_lets +onlyGivenNames s_5
            have h_6 : KV 88 4 v0 s_5 := KV_mu h (Or.inl (by decide))
            clear_value s_5
            exact (K_X12_set_110 h_6)
      · exact pk_some h
theorem K_X12_feed_71 {v0 : Int32} {x1 : Int32} {x2 : Int32} {x3 : Int32} {x4 : Int32} {x5 : Int32} {x6 : Int32} {y0 : Int32} {s : mG} (h : KV 88 4 v0 s) : pk (F_X12_feed_71 x1 x2 x3 x4 x5 x6 y0 s) (se (fun τ => KV 88 4 v0 τ.2.2.2.2.2.2) (fun τ => KV 88 4 v0 τ.2)) := by
  unfold F_X12_feed_71
  refine pk_nn ?_
  extract_lets +onlyGivenNames s_1
  have h_2 : KV 88 4 v0 s_1 := KV_mu h (Or.inl (by decide))
  clear_value s_1
  extract_lets +onlyGivenNames s_3
  have h_4 : KV 88 4 v0 s_3 := KV_mu h_2 (Or.inr (by decide))
  clear_value s_3
  exact pk_some h_4
theorem K_X12_feed_B18 {v0 : Int32} {x1 : Int32} {x2 : Int32} {x3 : Int32} {x4 : Int32} {x5 : Int32} {x6 : Int32} {s : mG} (h : KV 88 4 v0 s) : pk (F_X12_feed_B18 x1 x2 x3 x4 x5 x6 s) (se (fun τ => KV 88 4 v0 τ.2.2.2.2.2.2) (fun τ => KV 88 4 v0 τ.2)) := by
  unfold F_X12_feed_B18
  refine pk_ite ?_ ?_
  · exact pk_some h
  · refine pk_ite ?_ ?_
    · refine pk_ite ?_ ?_
      · refine pk_ite ?_ ?_
        · refine pk_ite ?_ ?_
          · exact (K_X12_feed_71 h)
          · exact (K_X12_feed_71 h)
        · exact (K_X12_feed_71 h)
      · exact (K_X12_feed_71 h)
    · exact (K_X12_feed_71 h)
theorem K_X12_feed_L18 {v0 : Int32} {x1 : Int32} {x2 : Int32} {x3 : Int32} {x4 : Int32} {x5 : Int32} {x6 : Int32} {s : mG} (h : KV 88 4 v0 s) : pk (F_X12_feed_L18 x1 x2 x3 x4 x5 x6 s) (fun τ => KV 88 4 v0 τ.2) := by
  unfold F_X12_feed_L18
  refine pk_whl (fun v => KV 88 4 v0 v.2.2.2.2.2.2) h (fun v hv => ?_)
  obtain ⟨y0, y1, y2, y3, y4, y5, y6⟩ := v
  exact K_X12_feed_B18 hv
theorem K_X12_feed {v0 : Int32} {a1 : Int32} {a2 : Int32} {a3 : Int32} {a4 : Int32} {a5 : Int32} {s : mG} (h : KV 88 4 v0 s) : pk (F_X12_feed a1 a2 a3 a4 a5 s) (fun τ => KV 88 4 v0 τ.2) := by
  unfold F_X12_feed
  refine pk_ite ?_ ?_
  · exact (K_X12_feed_L18 h)
  · exact pk_some h
theorem K_X12_end {v0 : Int32} {a1 : Int32} {s : mG} (h : KV 88 4 v0 s) : pk (F_X12_end a1 s) (fun τ => KV 88 4 v0 τ.2) := by
  unfold F_X12_end
  refine pk_b1 pk_top (fun _ _ => ?_)
  refine pk_ite ?_ ?_
  · exact pk_some h
  · extract_lets +onlyGivenNames s_1
    have h_2 : KV 88 4 v0 s_1 := KV_mu h (Or.inr (by decide))
    clear_value s_1
    exact pk_some h_2
theorem K_X12_next0_26 {v0 : Int32} {s : mG} (h : KV 88 4 v0 s) : pk (F_X12_next0_26 s) (se (fun τ => KV 88 4 v0 τ) (fun τ => KV 88 4 v0 τ)) := by
  unfold F_X12_next0_26
  extract_lets +onlyGivenNames s_1
  have h_2 : KV 88 4 v0 s_1 := KV_mu h (Or.inr (by decide))
  clear_value s_1
  exact pk_some h_2
theorem K_X12_next0_303 {v0 : Int32} {y1 : Int32} {s : mG} (h : KV 88 4 v0 s) : pk (F_X12_next0_303 y1 s) (fun τ => KV 88 4 v0 τ) := by
  unfold F_X12_next0_303
  extract_lets +onlyGivenNames s_1
  have h_2 : KV 88 4 v0 s_1 := KV_mu h (Or.inr (by decide))
  clear_value s_1
  exact pk_some h_2
theorem K_X12_next0_289 {v0 : Int32} {x1 : Int32} {y0 : Int32} {s : mG} (h : KV 88 4 v0 s) : pk (F_X12_next0_289 x1 y0 s) (fun τ => KV 88 4 v0 τ) := by
  unfold F_X12_next0_289
  refine pk_ite ?_ ?_
  · exact (K_X12_next0_303 h)
  · exact (K_X12_next0_303 h)
theorem K_X12_next0_284 {v0 : Int32} {x1 : Int32} {s : mG} (h : KV 88 4 v0 s) : pk (F_X12_next0_284 x1 s) (fun τ => KV 88 4 v0 τ) := by
  unfold F_X12_next0_284
  exact (K_X12_next0_289 h)
theorem K_X12_next0_208 {v0 : Int32} {y1 : Int32} {s : mG} (h : KV 88 4 v0 s) : pk (F_X12_next0_208 y1 s) (fun τ => KV 88 4 v0 τ) := by
  unfold F_X12_next0_208
  extract_lets +onlyGivenNames s_1
  have h_2 : KV 88 4 v0 s_1 := KV_mu h (Or.inr (by decide))
  clear_value s_1
  exact pk_some h_2
theorem K_X12_next0_176 {v0 : Int32} {s : mG} (h : KV 88 4 v0 s) : pk (F_X12_next0_176 s) (se (fun τ => KV 88 4 v0 τ) (fun τ => KV 88 4 v0 τ)) := by
  unfold F_X12_next0_176
  extract_lets +onlyGivenNames s_1
  have h_2 : KV 88 4 v0 s_1 := KV_mu h (Or.inr (by decide))
  clear_value s_1
  exact pk_some h_2
theorem K_X12_next0_B126 {v0 : Int32} {s : mG} (h : KV 88 4 v0 s) : pk (F_X12_next0_B126 s) (se (fun τ => KV 88 4 v0 τ) (fun τ => KV 88 4 v0 τ)) := by
  unfold F_X12_next0_B126
  refine pk_b1 pk_top (fun _ _ => ?_)
  refine pk_b1 pk_top (fun _ _ => ?_)
  refine pk_ite ?_ ?_
  · refine pk_ite ?_ ?_
    · refine pk_b1r ?_
      exact (K_X12_next0_208 h)
    · refine pk_b1r ?_
      exact (K_X12_next0_208 h)
  · refine pk_ite ?_ ?_
    · exact (K_X12_next0_176 h)
    · refine pk_b1 pk_top (fun _ _ => ?_)
      extract_lets +onlyGivenNames s_1
      have h_2 : KV 88 4 v0 s_1 := KV_mu h (Or.inr (by decide))
      clear_value s_1
      exact (K_X12_next0_176 h_2)
theorem K_X12_next0_L126 {v0 : Int32} {s : mG} (h : KV 88 4 v0 s) : pk (F_X12_next0_L126 s) (fun τ => KV 88 4 v0 τ) := by
  unfold F_X12_next0_L126
  refine pk_whl (fun v => KV 88 4 v0 v) h (fun v hv => ?_)
  exact K_X12_next0_B126 hv
theorem K_X12_next0_B76 {v0 : Int32} {s : mG} (h : KV 88 4 v0 s) : pk (F_X12_next0_B76 s) (se (fun τ => KV 88 4 v0 τ) (fun τ => KV 88 4 v0 τ)) := by
  unfold F_X12_next0_B76
  refine pk_b1 pk_top (fun _ _ => ?_)
  refine pk_b1 pk_top (fun _ _ => ?_)
  refine pk_ite ?_ ?_
  · refine pk_b1 pk_top (fun _ _ => ?_)
    extract_lets +onlyGivenNames s_1
    have h_2 : KV 88 4 v0 s_1 := KV_mu h (Or.inr (by decide))
    clear_value s_1
    exact pk_some h_2
  · extract_lets +onlyGivenNames s_3
    have h_4 : KV 88 4 v0 s_3 := KV_mu h (Or.inr (by decide))
    clear_value s_3
    exact pk_some h_4
theorem K_X12_next0_L76 {v0 : Int32} {s : mG} (h : KV 88 4 v0 s) : pk (F_X12_next0_L76 s) (fun τ => KV 88 4 v0 τ) := by
  unfold F_X12_next0_L76
  refine pk_whl (fun v => KV 88 4 v0 v) h (fun v hv => ?_)
  exact K_X12_next0_B76 hv
theorem K_X12_next0_B0 {v0 : Int32} {s : mG} (h : KV 88 4 v0 s) : pk (F_X12_next0_B0 s) (se (fun τ => KV 88 4 v0 τ) (fun τ => KV 88 4 v0 τ)) := by
  unfold F_X12_next0_B0
  refine pk_b1 pk_top (fun _ _ => ?_)
  refine pk_ite ?_ ?_
  · exact (K_X12_next0_26 h)
  · refine pk_b1 pk_top (fun _ _ => ?_)
    refine pk_ite ?_ ?_
    · exact (K_X12_next0_26 h)
    · extract_lets +onlyGivenNames s_1
      have h_2 : KV 88 4 v0 s_1 := KV_mu h (Or.inr (by decide))
      clear_value s_1
      refine pk_b1 pk_top (fun _ _ => ?_)
      refine pk_ite ?_ ?_
      · extract_lets +onlyGivenNames s_3
        have h_4 : KV 88 4 v0 s_3 := KV_mu h_2 (Or.inr (by decide))
        clear_value s_3
        exact pk_some h_4
      · refine pk_b1 pk_top (fun _ _ => ?_)
        refine pk_ite ?_ ?_
        · refine pk_b1 pk_top (fun _ _ => ?_)
          refine pk_ite ?_ ?_
          · extract_lets +onlyGivenNames s_5
            have h_6 : KV 88 4 v0 s_5 := KV_mu h_2 (Or.inr (by decide))
            clear_value s_5
            refine pk_ite ?_ ?_
            · refine pk_b1r ?_
              exact (K_X12_next0_284 h_6)
            · refine pk_ite ?_ ?_
              · refine pk_b1r ?_
                exact (K_X12_next0_284 h_6)
              · refine pk_ite ?_ ?_
                · refine pk_b1r ?_
                  exact (K_X12_next0_284 h_6)
                · refine pk_ite ?_ ?_
                  · refine pk_b1r ?_
                    exact (K_X12_next0_284 h_6)
                  · refine pk_ite ?_ ?_
                    · refine pk_b1r ?_
                      exact (K_X12_next0_284 h_6)
                    · refine pk_ite ?_ ?_
                      · refine pk_b1r ?_
                        exact (K_X12_next0_284 h_6)
                      · refine pk_ite ?_ ?_
                        · refine pk_b1r ?_
                          exact (K_X12_next0_284 h_6)
                        · refine pk_ite ?_ ?_
                          · refine pk_b1r ?_
                            exact (K_X12_next0_284 h_6)
                          · refine pk_ite ?_ ?_
                            · refine pk_b1r ?_
                              exact (K_X12_next0_284 h_6)
                            · refine pk_ite ?_ ?_
                              · refine pk_b1r ?_
                                exact (K_X12_next0_284 h_6)
                              · refine pk_b1r ?_
                                exact (K_X12_next0_289 h_6)
          · extract_lets +onlyGivenNames s_7
            have h_8 : KV 88 4 v0 s_7 := KV_mu h_2 (Or.inr (by decide))
            clear_value s_7
            refine pk_b1r ?_
            exact (K_X12_next0_L126 h_8)
        · refine pk_b1r ?_
          exact (K_X12_next0_L76 h_2)
theorem K_X12_next0_L0 {v0 : Int32} {s : mG} (h : KV 88 4 v0 s) : pk (F_X12_next0_L0 s) (fun τ => KV 88 4 v0 τ) := by
  unfold F_X12_next0_L0
  refine pk_whl (fun v => KV 88 4 v0 v) h (fun v hv => ?_)
  exact K_X12_next0_B0 hv
theorem K_X12_next0 {v0 : Int32} {s : mG} (h : KV 88 4 v0 s) : pk (F_X12_next0 s) (fun τ => KV 88 4 v0 τ) := by
  unfold F_X12_next0
  exact (K_X12_next0_L0 h)
theorem K_X12_bad {v0 : Int32} {a1 : Int32} {s : mG} (h : KV 88 4 v0 s) : pk (F_X12_bad a1 s) (fun τ => KV 88 4 v0 τ.2) := by
  unfold F_X12_bad
  extract_lets +onlyGivenNames s_1
  have h_2 : KV 88 4 v0 s_1 := KV_mu h (Or.inr (by decide))
  clear_value s_1
  extract_lets +onlyGivenNames s_3
  have h_4 : KV 88 4 v0 s_3 := KV_mu h_2 (Or.inr (by decide))
  clear_value s_3
  exact pk_some h_4
theorem K_X12_need {v0 : Int32} {a1 : Int32} {s : mG} (h : KV 88 4 v0 s) : pk (F_X12_need a1 s) (fun τ => KV 88 4 v0 τ.2) := by
  unfold F_X12_need
  refine pk_ite ?_ ?_
  · refine pk_b1 (K_X12_next0 h) (fun s_1 (h_2 : KV 88 4 v0 s_1) => ?_)
    exact pk_some h_2
  · refine pk_b2 (K_X12_bad h) (fun _ s_3 (h_4 : KV 88 4 v0 s_3) => ?_)
    refine pk_pp ?_
    exact pk_some h_4
theorem K_X12_lay {v0 : Int32} {a1 : Int32} {a2 : Int32} {s : mG} (h : KV 88 4 v0 s) : pk (F_X12_lay a1 a2 s) (fun τ => KV 88 4 v0 τ) := by
  unfold F_X12_lay
  refine pk_nn ?_
  extract_lets +onlyGivenNames s_1
  have h_2 : KV 88 4 v0 s_1 := KV_mu h (Or.inl (by decide))
  clear_value s_1
  refine pk_nn ?_
  extract_lets +onlyGivenNames s_3
  have h_4 : KV 88 4 v0 s_3 := KV_mu h_2 (Or.inl (by decide))
  clear_value s_3
  extract_lets +onlyGivenNames s_5
  have h_6 : KV 88 4 v0 s_5 := KV_mu h_4 (Or.inr (by decide))
  clear_value s_5
  exact pk_some h_6
theorem K_X12_opens {v0 : Int32} {s : mG} (h : KV 88 4 v0 s) : pk (F_X12_opens s) (fun τ => KV 88 4 v0 τ.2) := by
  unfold F_X12_opens
  refine pk_ite ?_ ?_
  · refine pk_b2 (K_X12_bad h) (fun _ s_1 (h_2 : KV 88 4 v0 s_1) => ?_)
    refine pk_pp ?_
    exact pk_some h_2
  · extract_lets +onlyGivenNames s_3
    have h_4 : KV 88 4 v0 s_3 := KV_mu h (Or.inr (by decide))
    clear_value s_3
    refine pk_b1 (K_X12_next0 h_4) (fun s_5 (h_6 : KV 88 4 v0 s_5) => ?_)
    exact pk_some h_6
theorem K_X12_unit_46 {v0 : Int32} {y1 : Int32} {s : mG} (h : KV 88 4 v0 s) : pk (F_X12_unit_46 y1 s) (fun τ => KV 88 4 v0 τ.2) := by
  unfold F_X12_unit_46
  refine pk_b1 (K_X12_lay h) (fun s_1 (h_2 : KV 88 4 v0 s_1) => ?_)
  refine pk_b1 (K_X12_next0 h_2) (fun s_3 (h_4 : KV 88 4 v0 s_3) => ?_)
  exact pk_some h_4
theorem K_X12_unit_30 {v0 : Int32} {x1 : Int32} {s : mG} (h : KV 88 4 v0 s) : pk (F_X12_unit_30 x1 s) (fun τ => KV 88 4 v0 τ.2) := by
  unfold F_X12_unit_30
  refine pk_ite ?_ ?_
  · exact (K_X12_unit_46 h)
  · exact (K_X12_unit_46 h)
theorem K_X12_unit {v0 : Int32} {s : mG} (h : KV 88 4 v0 s) : pk (F_X12_unit s) (fun τ => KV 88 4 v0 τ.2) := by
  unfold F_X12_unit
  refine pk_b1 pk_top (fun _ _ => ?_)
  refine pk_ite ?_ ?_
  · exact (K_X12_unit_30 h)
  · refine pk_ite ?_ ?_
    · refine pk_b2 (K_X12_bad h) (fun _ s_1 (h_2 : KV 88 4 v0 s_1) => ?_)
      refine pk_pp ?_
      exact pk_some h_2
    · exact (K_X12_unit_30 h)
theorem K_X12_product_112 {v0 : Int32} {s : mG} (h : KV 88 4 v0 s) : pk (F_X12_product_112 s) (se (fun τ => KV 88 4 v0 τ) (fun τ => KV 88 4 v0 τ.2)) := by
  unfold F_X12_product_112
  exact pk_some h
theorem K_X12_product_44 {v0 : Int32} {y0 : Int32} {s : mG} (h : KV 88 4 v0 s) : pk (F_X12_product_44 y0 s) (se (fun τ => KV 88 4 v0 τ) (fun τ => KV 88 4 v0 τ.2)) := by
  unfold F_X12_product_44
  refine pk_b1 (K_X12_next0 h) (fun s_1 (h_2 : KV 88 4 v0 s_1) => ?_)
  refine pk_ite ?_ ?_
  · refine pk_b2 (K_X12_unit h_2) (fun _ s_3 (h_4 : KV 88 4 v0 s_3) => ?_)
    refine pk_ite ?_ ?_
    · exact pk_some h_4
    · refine pk_b1 (K_X12_lay h_4) (fun s_5 (h_6 : KV 88 4 v0 s_5) => ?_)
      exact (K_X12_product_112 h_6)
  · refine pk_ite ?_ ?_
    · refine pk_ite ?_ ?_
      · refine pk_b2 (K_X12_bad h_2) (fun _ s_7 (h_8 : KV 88 4 v0 s_7) => ?_)
        refine pk_pp ?_
        exact pk_some h_8
      · refine pk_b1 (K_X12_next0 h_2) (fun s_9 (h_10 : KV 88 4 v0 s_9) => ?_)
        refine pk_b1 (K_X12_lay h_10) (fun s_11 (h_12 : KV 88 4 v0 s_11) => ?_)
        exact (K_X12_product_112 h_12)
    · refine pk_b2 (K_X12_bad h_2) (fun _ s_13 (h_14 : KV 88 4 v0 s_13) => ?_)
      refine pk_pp ?_
      exact pk_some h_14
theorem K_X12_product_29 {v0 : Int32} {s : mG} (h : KV 88 4 v0 s) : pk (F_X12_product_29 s) (se (fun τ => KV 88 4 v0 τ) (fun τ => KV 88 4 v0 τ.2)) := by
  unfold F_X12_product_29
  refine pk_ite ?_ ?_
  · exact (K_X12_product_44 h)
  · exact (K_X12_product_44 h)
theorem K_X12_product_B9 {v0 : Int32} {s : mG} (h : KV 88 4 v0 s) : pk (F_X12_product_B9 s) (se (fun τ => KV 88 4 v0 τ) (fun τ => KV 88 4 v0 τ.2)) := by
  unfold F_X12_product_B9
  refine pk_ite ?_ ?_
  · exact (K_X12_product_29 h)
  · refine pk_ite ?_ ?_
    · exact (K_X12_product_29 h)
    · exact pk_some h
theorem K_X12_product_L9 {v0 : Int32} {s : mG} (h : KV 88 4 v0 s) : pk (F_X12_product_L9 s) (fun τ => KV 88 4 v0 τ.2) := by
  unfold F_X12_product_L9
  refine pk_whl (fun v => KV 88 4 v0 v) h (fun v hv => ?_)
  exact K_X12_product_B9 hv
theorem K_X12_product {v0 : Int32} {s : mG} (h : KV 88 4 v0 s) : pk (F_X12_product s) (fun τ => KV 88 4 v0 τ.2) := by
  unfold F_X12_product
  refine pk_b2 (K_X12_unit h) (fun _ s_1 (h_2 : KV 88 4 v0 s_1) => ?_)
  refine pk_ite ?_ ?_
  · exact pk_some h_2
  · exact (K_X12_product_L9 h_2)
theorem K_X12_sumUp_46 {v0 : Int32} {y0 : Int32} {s : mG} (h : KV 88 4 v0 s) : pk (F_X12_sumUp_46 y0 s) (se (fun τ => KV 88 4 v0 τ) (fun τ => KV 88 4 v0 τ.2)) := by
  unfold F_X12_sumUp_46
  refine pk_b1 (K_X12_next0 h) (fun s_1 (h_2 : KV 88 4 v0 s_1) => ?_)
  refine pk_b2 (K_X12_product h_2) (fun _ s_3 (h_4 : KV 88 4 v0 s_3) => ?_)
  refine pk_ite ?_ ?_
  · exact pk_some h_4
  · refine pk_b1 (K_X12_lay h_4) (fun s_5 (h_6 : KV 88 4 v0 s_5) => ?_)
    exact pk_some h_6
theorem K_X12_sumUp_29 {v0 : Int32} {s : mG} (h : KV 88 4 v0 s) : pk (F_X12_sumUp_29 s) (se (fun τ => KV 88 4 v0 τ) (fun τ => KV 88 4 v0 τ.2)) := by
  unfold F_X12_sumUp_29
  refine pk_ite ?_ ?_
  · exact (K_X12_sumUp_46 h)
  · exact (K_X12_sumUp_46 h)
theorem K_X12_sumUp_B9 {v0 : Int32} {s : mG} (h : KV 88 4 v0 s) : pk (F_X12_sumUp_B9 s) (se (fun τ => KV 88 4 v0 τ) (fun τ => KV 88 4 v0 τ.2)) := by
  unfold F_X12_sumUp_B9
  refine pk_ite ?_ ?_
  · exact (K_X12_sumUp_29 h)
  · refine pk_ite ?_ ?_
    · exact (K_X12_sumUp_29 h)
    · exact pk_some h
theorem K_X12_sumUp_L9 {v0 : Int32} {s : mG} (h : KV 88 4 v0 s) : pk (F_X12_sumUp_L9 s) (fun τ => KV 88 4 v0 τ.2) := by
  unfold F_X12_sumUp_L9
  refine pk_whl (fun v => KV 88 4 v0 v) h (fun v hv => ?_)
  exact K_X12_sumUp_B9 hv
theorem K_X12_sumUp {v0 : Int32} {s : mG} (h : KV 88 4 v0 s) : pk (F_X12_sumUp s) (fun τ => KV 88 4 v0 τ.2) := by
  unfold F_X12_sumUp
  refine pk_b2 (K_X12_product h) (fun _ s_1 (h_2 : KV 88 4 v0 s_1) => ?_)
  refine pk_ite ?_ ?_
  · exact pk_some h_2
  · exact (K_X12_sumUp_L9 h_2)
theorem K_X12_every_B9 {v0 : Int32} {rec : mG → Option (Int32 × mG)} {s : mG} (hrec : ∀ (r : mG), KV 88 4 v0 r → pk (rec r) (fun τ => KV 88 4 v0 τ.2)) (h : KV 88 4 v0 s) : pk (F_X12_every_B9 rec s) (se (fun τ => KV 88 4 v0 τ) (fun τ => KV 88 4 v0 τ.2)) := by
  unfold F_X12_every_B9
  refine pk_ite ?_ ?_
  · refine pk_b1 (K_X12_next0 h) (fun s_1 (h_2 : KV 88 4 v0 s_1) => ?_)
    refine pk_b2 (hrec _ h_2) (fun _ s_3 (h_4 : KV 88 4 v0 s_3) => ?_)
    refine pk_ite ?_ ?_
    · exact pk_some h_4
    · refine pk_b1 (K_X12_lay h_4) (fun s_5 (h_6 : KV 88 4 v0 s_5) => ?_)
      exact pk_some h_6
  · exact pk_some h
theorem K_X12_every_L9 {v0 : Int32} {rec : mG → Option (Int32 × mG)} {s : mG} (hrec : ∀ (r : mG), KV 88 4 v0 r → pk (rec r) (fun τ => KV 88 4 v0 τ.2)) (h : KV 88 4 v0 s) : pk (F_X12_every_L9 rec s) (fun τ => KV 88 4 v0 τ.2) := by
  unfold F_X12_every_L9
  refine pk_whl (fun v => KV 88 4 v0 v) h (fun v hv => ?_)
  exact K_X12_every_B9 hrec hv
theorem K_X12_every {v0 : Int32} {rec : mG → Option (Int32 × mG)} {s : mG} (hrec : ∀ (r : mG), KV 88 4 v0 r → pk (rec r) (fun τ => KV 88 4 v0 τ.2)) (h : KV 88 4 v0 s) : pk (F_X12_every rec s) (fun τ => KV 88 4 v0 τ.2) := by
  unfold F_X12_every
  refine pk_b2 (hrec _ h) (fun _ s_1 (h_2 : KV 88 4 v0 s_1) => ?_)
  refine pk_ite ?_ ?_
  · exact pk_some h_2
  · exact (K_X12_every_L9 hrec h_2)
theorem K_X12_any_B9 {v0 : Int32} {rec : mG → Option (Int32 × mG)} {s : mG} (hrec : ∀ (r : mG), KV 88 4 v0 r → pk (rec r) (fun τ => KV 88 4 v0 τ.2)) (h : KV 88 4 v0 s) : pk (F_X12_any_B9 rec s) (se (fun τ => KV 88 4 v0 τ) (fun τ => KV 88 4 v0 τ.2)) := by
  unfold F_X12_any_B9
  refine pk_ite ?_ ?_
  · refine pk_b1 (K_X12_next0 h) (fun s_1 (h_2 : KV 88 4 v0 s_1) => ?_)
    refine pk_b2 (K_X12_every hrec h_2) (fun _ s_3 (h_4 : KV 88 4 v0 s_3) => ?_)
    refine pk_ite ?_ ?_
    · exact pk_some h_4
    · refine pk_b1 (K_X12_lay h_4) (fun s_5 (h_6 : KV 88 4 v0 s_5) => ?_)
      exact pk_some h_6
  · exact pk_some h
theorem K_X12_any_L9 {v0 : Int32} {rec : mG → Option (Int32 × mG)} {s : mG} (hrec : ∀ (r : mG), KV 88 4 v0 r → pk (rec r) (fun τ => KV 88 4 v0 τ.2)) (h : KV 88 4 v0 s) : pk (F_X12_any_L9 rec s) (fun τ => KV 88 4 v0 τ.2) := by
  unfold F_X12_any_L9
  refine pk_whl (fun v => KV 88 4 v0 v) h (fun v hv => ?_)
  exact K_X12_any_B9 hrec hv
theorem K_X12_any {v0 : Int32} {rec : mG → Option (Int32 × mG)} {s : mG} (hrec : ∀ (r : mG), KV 88 4 v0 r → pk (rec r) (fun τ => KV 88 4 v0 τ.2)) (h : KV 88 4 v0 s) : pk (F_X12_any rec s) (fun τ => KV 88 4 v0 τ.2) := by
  unfold F_X12_any
  refine pk_b2 (K_X12_every hrec h) (fun _ s_1 (h_2 : KV 88 4 v0 s_1) => ?_)
  refine pk_ite ?_ ?_
  · exact pk_some h_2
  · exact (K_X12_any_L9 hrec h_2)
theorem K_X12_oneTest_23 {v0 : Int32} {rec : mG → Option (Int32 × mG)} {s : mG} (hrec : ∀ (r : mG), KV 88 4 v0 r → pk (rec r) (fun τ => KV 88 4 v0 τ.2)) (h : KV 88 4 v0 s) : pk (F_X12_oneTest_23 rec s) (fun τ => KV 88 4 v0 τ.2) := by
  unfold F_X12_oneTest_23
  exact pk_some h
theorem K_X12_oneTest_78 {v0 : Int32} {rec : mG → Option (Int32 × mG)} {s : mG} (hrec : ∀ (r : mG), KV 88 4 v0 r → pk (rec r) (fun τ => KV 88 4 v0 τ.2)) (h : KV 88 4 v0 s) : pk (F_X12_oneTest_78 rec s) (fun τ => KV 88 4 v0 τ.2) := by
  unfold F_X12_oneTest_78
  exact pk_some h
theorem K_X12_oneTest_147 {v0 : Int32} {rec : mG → Option (Int32 × mG)} {y0 : Int32} {s : mG} (hrec : ∀ (r : mG), KV 88 4 v0 r → pk (rec r) (fun τ => KV 88 4 v0 τ.2)) (h : KV 88 4 v0 s) : pk (F_X12_oneTest_147 rec y0 s) (fun τ => KV 88 4 v0 τ.2) := by
  unfold F_X12_oneTest_147
  refine pk_ite ?_ ?_
  · refine pk_b2 (K_X12_bad h) (fun _ s_1 (h_2 : KV 88 4 v0 s_1) => ?_)
    refine pk_pp ?_
    exact pk_some h_2
  · refine pk_b1 (K_X12_next0 h) (fun s_3 (h_4 : KV 88 4 v0 s_3) => ?_)
    refine pk_b2 (K_X12_sumUp h_4) (fun _ s_5 (h_6 : KV 88 4 v0 s_5) => ?_)
    refine pk_ite ?_ ?_
    · exact pk_some h_6
    · refine pk_b1 (K_X12_lay h_6) (fun s_7 (h_8 : KV 88 4 v0 s_7) => ?_)
      exact pk_some h_8
theorem K_X12_oneTest {v0 : Int32} {rec : mG → Option (Int32 × mG)} {s : mG} (hrec : ∀ (r : mG), KV 88 4 v0 r → pk (rec r) (fun τ => KV 88 4 v0 τ.2)) (h : KV 88 4 v0 s) : pk (F_X12_oneTest rec s) (fun τ => KV 88 4 v0 τ.2) := by
  unfold F_X12_oneTest
  refine pk_ite ?_ ?_
  · refine pk_b2 (K_X12_opens h) (fun _ s_1 (h_2 : KV 88 4 v0 s_1) => ?_)
    refine pk_ite ?_ ?_
    · exact (K_X12_oneTest_23 hrec h_2)
    · refine pk_b2 (hrec _ h_2) (fun _ s_3 (h_4 : KV 88 4 v0 s_3) => ?_)
      refine pk_ite ?_ ?_
      · exact (K_X12_oneTest_23 hrec h_4)
      · extract_lets +onlyGivenNames s_5
        have h_6 : KV 88 4 v0 s_5 := KV_mu h_4 (Or.inr (by decide))
        clear_value s_5
        refine pk_b1 (K_X12_lay h_6) (fun s_7 (h_8 : KV 88 4 v0 s_7) => ?_)
        exact pk_some h_8
  · refine pk_ite ?_ ?_
    · refine pk_b2 (K_X12_opens h) (fun _ s_9 (h_10 : KV 88 4 v0 s_9) => ?_)
      refine pk_ite ?_ ?_
      · exact (K_X12_oneTest_78 hrec h_10)
      · refine pk_b2 (K_X12_any hrec h_10) (fun _ s_11 (h_12 : KV 88 4 v0 s_11) => ?_)
        refine pk_ite ?_ ?_
        · exact (K_X12_oneTest_78 hrec h_12)
        · refine pk_b2 (K_X12_need h_12) (fun _ s_13 (h_14 : KV 88 4 v0 s_13) => ?_)
          refine pk_ite ?_ ?_
          · exact (K_X12_oneTest_78 hrec h_14)
          · extract_lets +onlyGivenNames s_15
            have h_16 : KV 88 4 v0 s_15 := KV_mu h_14 (Or.inr (by decide))
            clear_value s_15
            exact pk_some h_16
    · refine pk_b2 (K_X12_sumUp h) (fun _ s_17 (h_18 : KV 88 4 v0 s_17) => ?_)
      refine pk_ite ?_ ?_
      · exact pk_some h_18
      · refine pk_ite ?_ ?_
        · exact (K_X12_oneTest_147 hrec h_18)
        · refine pk_ite ?_ ?_
          · exact (K_X12_oneTest_147 hrec h_18)
          · refine pk_ite ?_ ?_
            · exact (K_X12_oneTest_147 hrec h_18)
            · exact (K_X12_oneTest_147 hrec h_18)
theorem K_Q_X12_oneTest {v0 : Int32} : ∀ (n : Nat) (s : mG), KV 88 4 v0 s → pk (Q_X12_oneTest n s) (fun τ => KV 88 4 v0 τ.2)
  | 0, _, _ => pk_none
  | n + 1, _, h => K_X12_oneTest (fun s h => K_Q_X12_oneTest n s h) h
theorem K_R_X12_oneTest {v0 : Int32} {s : mG} (h : KV 88 4 v0 s) : pk (R_X12_oneTest s) (fun τ => KV 88 4 v0 τ.2) := K_Q_X12_oneTest 9 s h
theorem K_X12_aLine_123 {v0 : Int32} {s : mG} (h : KV 88 4 v0 s) : pk (F_X12_aLine_123 s) (fun τ => KV 88 4 v0 τ.2) := by
  unfold F_X12_aLine_123
  refine pk_nn ?_
  extract_lets +onlyGivenNames s_1
  have h_2 : KV 88 4 v0 s_1 := KV_mu h (Or.inl (by decide))
  clear_value s_1
  refine pk_b2 (K_X12_need h_2) (fun _ s_3 (h_4 : KV 88 4 v0 s_3) => ?_)
  refine pk_pp ?_
  exact pk_some h_4
theorem K_X12_aLine {v0 : Int32} {s : mG} (h : KV 88 4 v0 s) : pk (F_X12_aLine s) (fun τ => KV 88 4 v0 τ.2) := by
  unfold F_X12_aLine
  refine pk_b1 pk_top (fun _ _ => ?_)
  refine pk_ite ?_ ?_
  · refine pk_b2 (K_X12_bad h) (fun _ s_1 (h_2 : KV 88 4 v0 s_1) => ?_)
    refine pk_pp ?_
    exact pk_some h_2
  · refine pk_ite ?_ ?_
    · refine pk_b2 (K_X12_bad h) (fun _ s_3 (h_4 : KV 88 4 v0 s_3) => ?_)
      refine pk_pp ?_
      exact pk_some h_4
    · extract_lets +onlyGivenNames s_5
      have h_6 : KV 88 4 v0 s_5 := KV_mu h (Or.inr (by decide))
      clear_value s_5
      refine pk_nn ?_
      extract_lets +onlyGivenNames s_7
      have h_8 : KV 88 4 v0 s_7 := KV_mu h_6 (Or.inl (by decide))
      clear_value s_7
      refine pk_b1 (K_X12_next0 h_8) (fun s_9 (h_10 : KV 88 4 v0 s_9) => ?_)
      refine pk_nn ?_
      extract_lets +onlyGivenNames s_11
      have h_12 : KV 88 4 v0 s_11 := KV_mu h_10 (Or.inl (by decide))
      clear_value s_11
      refine pk_b2 (K_X12_sumUp h_12) (fun _ s_13 (h_14 : KV 88 4 v0 s_13) => ?_)
      refine pk_ite ?_ ?_
      · exact pk_some h_14
      · refine pk_nn ?_
        extract_lets +onlyGivenNames s_15
        have h_16 : KV 88 4 v0 s_15 := KV_mu h_14 (Or.inl (by decide))
        clear_value s_15
        refine pk_ite ?_ ?_
        · refine pk_b1 (K_X12_next0 h_16) (fun s_17 (h_18 : KV 88 4 v0 s_17) => ?_)
          refine pk_b2 (K_X12_any (fun _ h => K_R_X12_oneTest h) h_18) (fun _ s_19 (h_20 : KV 88 4 v0 s_19) => ?_)
          refine pk_ite ?_ ?_
          · exact pk_some h_20
          · exact (K_X12_aLine_123 h_20)
        · exact (K_X12_aLine_123 h_16)
theorem K_X12_readsLaw_49 {v0 : Int32} {x1 : Int32} {s : mG} (h : KV 88 4 v0 s) : pk (F_X12_readsLaw_49 x1 s) (fun τ => KV 88 4 v0 τ.2) := by
  unfold F_X12_readsLaw_49
  refine pk_pp ?_
  exact pk_some h
theorem K_X12_readsLaw_42 {v0 : Int32} {x1 : Int32} {y1 : Int32} {y2 : Int32} {s : mG} (h : KV 88 4 v0 s) : pk (F_X12_readsLaw_42 x1 y1 y2 s) (se (fun τ => KV 88 4 v0 τ.2) (fun τ => KV 88 4 v0 τ.2)) := by
  unfold F_X12_readsLaw_42
  extract_lets +onlyGivenNames s_1
  have h_2 : KV 88 4 v0 s_1 := KV_mu h (Or.inr (by decide))
  clear_value s_1
  exact pk_some h_2
theorem K_X12_readsLaw_B12 {v0 : Int32} {x1 : Int32} {s : mG} (h : KV 88 4 v0 s) : pk (F_X12_readsLaw_B12 x1 s) (se (fun τ => KV 88 4 v0 τ.2) (fun τ => KV 88 4 v0 τ.2)) := by
  unfold F_X12_readsLaw_B12
  refine pk_ite ?_ ?_
  · refine pk_b1r ?_
    exact (K_X12_readsLaw_49 h)
  · refine pk_ite ?_ ?_
    · refine pk_b1r ?_
      exact (K_X12_readsLaw_49 h)
    · refine pk_b2 (K_X12_aLine h) (fun _ s_1 (h_2 : KV 88 4 v0 s_1) => ?_)
      refine pk_ite ?_ ?_
      · exact (K_X12_readsLaw_42 h_2)
      · exact (K_X12_readsLaw_42 h_2)
theorem K_X12_readsLaw_L12 {v0 : Int32} {x1 : Int32} {s : mG} (h : KV 88 4 v0 s) : pk (F_X12_readsLaw_L12 x1 s) (fun τ => KV 88 4 v0 τ.2) := by
  unfold F_X12_readsLaw_L12
  refine pk_whl (fun v => KV 88 4 v0 v.2) h (fun v hv => ?_)
  obtain ⟨y0, y1⟩ := v
  exact K_X12_readsLaw_B12 hv
theorem K_X12_readsLaw {v0 : Int32} {s : mG} (h : KV 88 4 v0 s) : pk (F_X12_readsLaw s) (fun τ => KV 88 4 v0 τ.2) := by
  unfold F_X12_readsLaw
  extract_lets +onlyGivenNames s_1
  have h_2 : KV 88 4 v0 s_1 := KV_mu h (Or.inr (by decide))
  clear_value s_1
  extract_lets +onlyGivenNames s_3
  have h_4 : KV 88 4 v0 s_3 := KV_mu h_2 (Or.inr (by decide))
  clear_value s_3
  exact (K_X12_readsLaw_L12 h_4)
theorem K_X12_number {v0 : Int32} {a1 : Int32} {a2 : Int32} {s : mG} (h : KV 88 4 v0 s) : pk (F_X12_number a1 a2 s) (fun τ => KV 88 4 v0 τ.2) := by
  unfold F_X12_number
  refine pk_ite ?_ ?_
  · refine pk_b1 pk_top (fun _ _ => ?_)
    refine pk_ite ?_ ?_
    · refine pk_b2 (K_X12_bad h) (fun _ s_1 (h_2 : KV 88 4 v0 s_1) => ?_)
      refine pk_pp ?_
      exact pk_some h_2
    · extract_lets +onlyGivenNames s_3
      have h_4 : KV 88 4 v0 s_3 := KV_mu h (Or.inr (by decide))
      clear_value s_3
      refine pk_b1 (K_X12_next0 h_4) (fun s_5 (h_6 : KV 88 4 v0 s_5) => ?_)
      exact pk_some h_6
  · refine pk_b2 (K_X12_bad h) (fun _ s_7 (h_8 : KV 88 4 v0 s_7) => ?_)
    refine pk_pp ?_
    exact pk_some h_8
theorem K_X12_told_18 {v0 : Int32} {s : mG} (h : KV 88 4 v0 s) : pk (F_X12_told_18 s) (fun τ => KV 88 4 v0 τ.2) := by
  unfold F_X12_told_18
  exact pk_some h
theorem K_X12_told {v0 : Int32} {a1 : Int32} {a2 : Int32} {a3 : Int32} {a4 : Int32} {s : mG} (h : KV 88 4 v0 s) : pk (F_X12_told a1 a2 a3 a4 s) (fun τ => KV 88 4 v0 τ.2) := by
  unfold F_X12_told
  refine pk_b2 (K_X12_need h) (fun _ s_1 (h_2 : KV 88 4 v0 s_1) => ?_)
  refine pk_ite ?_ ?_
  · exact (K_X12_told_18 h_2)
  · refine pk_b2 (K_X12_number h_2) (fun _ s_3 (h_4 : KV 88 4 v0 s_3) => ?_)
    refine pk_ite ?_ ?_
    · exact (K_X12_told_18 h_4)
    · refine pk_nn ?_
      extract_lets +onlyGivenNames s_5
      have h_6 : KV 88 4 v0 s_5 := KV_mu h_4 (Or.inl (by decide))
      clear_value s_5
      exact pk_some h_6
theorem K_X12_aSign_63 {v0 : Int32} {s : mG} (h : KV 88 4 v0 s) : pk (F_X12_aSign_63 s) (fun τ => KV 88 4 v0 τ.2) := by
  unfold F_X12_aSign_63
  exact pk_some h
theorem K_X12_aSign {v0 : Int32} {s : mG} (h : KV 88 4 v0 s) : pk (F_X12_aSign s) (fun τ => KV 88 4 v0 τ.2) := by
  unfold F_X12_aSign
  refine pk_b2 (K_X12_need h) (fun _ s_1 (h_2 : KV 88 4 v0 s_1) => ?_)
  refine pk_ite ?_ ?_
  · exact (K_X12_aSign_63 h_2)
  · refine pk_b2 (K_X12_told h_2) (fun _ s_3 (h_4 : KV 88 4 v0 s_3) => ?_)
    refine pk_ite ?_ ?_
    · exact (K_X12_aSign_63 h_4)
    · refine pk_b2 (K_X12_told h_4) (fun _ s_5 (h_6 : KV 88 4 v0 s_5) => ?_)
      refine pk_ite ?_ ?_
      · exact (K_X12_aSign_63 h_6)
      · refine pk_b2 (K_X12_need h_6) (fun _ s_7 (h_8 : KV 88 4 v0 s_7) => ?_)
        refine pk_ite ?_ ?_
        · exact (K_X12_aSign_63 h_8)
        · exact pk_some h_8
theorem K_X12_aShift_90 {v0 : Int32} {s : mG} (h : KV 88 4 v0 s) : pk (F_X12_aShift_90 s) (fun τ => KV 88 4 v0 τ.2) := by
  unfold F_X12_aShift_90
  exact pk_some h
theorem K_X12_aShift {v0 : Int32} {s : mG} (h : KV 88 4 v0 s) : pk (F_X12_aShift s) (fun τ => KV 88 4 v0 τ.2) := by
  unfold F_X12_aShift
  refine pk_b2 (K_X12_told h) (fun _ s_1 (h_2 : KV 88 4 v0 s_1) => ?_)
  refine pk_ite ?_ ?_
  · exact (K_X12_aShift_90 h_2)
  · refine pk_b2 (K_X12_told h_2) (fun _ s_3 (h_4 : KV 88 4 v0 s_3) => ?_)
    refine pk_ite ?_ ?_
    · exact (K_X12_aShift_90 h_4)
    · refine pk_b2 (K_X12_told h_4) (fun _ s_5 (h_6 : KV 88 4 v0 s_5) => ?_)
      refine pk_ite ?_ ?_
      · exact (K_X12_aShift_90 h_6)
      · refine pk_b2 (K_X12_told h_6) (fun _ s_7 (h_8 : KV 88 4 v0 s_7) => ?_)
        refine pk_ite ?_ ?_
        · exact (K_X12_aShift_90 h_8)
        · refine pk_b2 (K_X12_need h_8) (fun _ s_9 (h_10 : KV 88 4 v0 s_9) => ?_)
          refine pk_ite ?_ ?_
          · exact (K_X12_aShift_90 h_10)
          · exact pk_some h_10
theorem K_X12_readsRows_115 {v0 : Int32} {x1 : Int32} {s : mG} (h : KV 88 4 v0 s) : pk (F_X12_readsRows_115 x1 s) (fun τ => KV 88 4 v0 τ.2) := by
  unfold F_X12_readsRows_115
  refine pk_pp ?_
  exact pk_some h
theorem K_X12_readsRows_108 {v0 : Int32} {x1 : Int32} {y1 : Int32} {y2 : Int32} {s : mG} (h : KV 88 4 v0 s) : pk (F_X12_readsRows_108 x1 y1 y2 s) (se (fun τ => KV 88 4 v0 τ.2) (fun τ => KV 88 4 v0 τ.2)) := by
  unfold F_X12_readsRows_108
  extract_lets +onlyGivenNames s_1
  have h_2 : KV 88 4 v0 s_1 := KV_mu h (Or.inr (by decide))
  clear_value s_1
  exact pk_some h_2
theorem K_X12_readsRows_93 {v0 : Int32} {y0 : Int32} {s : mG} (h : KV 88 4 v0 s) : pk (F_X12_readsRows_93 y0 s) (se (fun τ => KV 88 4 v0 τ.2) (fun τ => KV 88 4 v0 τ.2)) := by
  unfold F_X12_readsRows_93
  refine pk_ite ?_ ?_
  · exact (K_X12_readsRows_108 h)
  · exact (K_X12_readsRows_108 h)
theorem K_X12_readsRows_65 {v0 : Int32} {y0 : Int32} {y1 : Int32} {s : mG} (h : KV 88 4 v0 s) : pk (F_X12_readsRows_65 y0 y1 s) (se (fun τ => KV 88 4 v0 τ.2) (fun τ => KV 88 4 v0 τ.2)) := by
  unfold F_X12_readsRows_65
  refine pk_ite ?_ ?_
  · refine pk_b2 (K_X12_bad h) (fun _ s_1 (h_2 : KV 88 4 v0 s_1) => ?_)
    refine pk_pp ?_
    exact pk_some h_2
  · refine pk_ite ?_ ?_
    · refine pk_b2 (K_X12_aSign h) (fun _ s_3 (h_4 : KV 88 4 v0 s_3) => ?_)
      exact (K_X12_readsRows_93 h_4)
    · refine pk_b2 (K_X12_aShift h) (fun _ s_5 (h_6 : KV 88 4 v0 s_5) => ?_)
      exact (K_X12_readsRows_93 h_6)
theorem K_X12_readsRows_37 {v0 : Int32} {y0 : Int32} {y1 : Int32} {s : mG} (h : KV 88 4 v0 s) : pk (F_X12_readsRows_37 y0 y1 s) (se (fun τ => KV 88 4 v0 τ.2) (fun τ => KV 88 4 v0 τ.2)) := by
  unfold F_X12_readsRows_37
  refine pk_ite ?_ ?_
  · refine pk_ite ?_ ?_
    · exact (K_X12_readsRows_65 h)
    · exact (K_X12_readsRows_65 h)
  · refine pk_b2 (K_X12_bad h) (fun _ s_1 (h_2 : KV 88 4 v0 s_1) => ?_)
    refine pk_pp ?_
    exact pk_some h_2
theorem K_X12_readsRows_B7 {v0 : Int32} {x1 : Int32} {s : mG} (h : KV 88 4 v0 s) : pk (F_X12_readsRows_B7 x1 s) (se (fun τ => KV 88 4 v0 τ.2) (fun τ => KV 88 4 v0 τ.2)) := by
  unfold F_X12_readsRows_B7
  refine pk_ite ?_ ?_
  · refine pk_b1r ?_
    exact (K_X12_readsRows_115 h)
  · refine pk_ite ?_ ?_
    · refine pk_b1r ?_
      exact (K_X12_readsRows_115 h)
    · refine pk_ite ?_ ?_
      · exact (K_X12_readsRows_37 h)
      · exact (K_X12_readsRows_37 h)
theorem K_X12_readsRows_L7 {v0 : Int32} {x1 : Int32} {s : mG} (h : KV 88 4 v0 s) : pk (F_X12_readsRows_L7 x1 s) (fun τ => KV 88 4 v0 τ.2) := by
  unfold F_X12_readsRows_L7
  refine pk_whl (fun v => KV 88 4 v0 v.2) h (fun v hv => ?_)
  obtain ⟨y0, y1⟩ := v
  exact K_X12_readsRows_B7 hv
theorem K_X12_readsRows {v0 : Int32} {s : mG} (h : KV 88 4 v0 s) : pk (F_X12_readsRows s) (fun τ => KV 88 4 v0 τ.2) := by
  unfold F_X12_readsRows
  extract_lets +onlyGivenNames s_1
  have h_2 : KV 88 4 v0 s_1 := KV_mu h (Or.inr (by decide))
  clear_value s_1
  exact (K_X12_readsRows_L7 h_2)
theorem K_X12_putsLaw_B107 {v0 : Int32} {x1 : Int32} {s : mG} (h : KV 88 4 v0 s) : pk (F_X12_putsLaw_B107 x1 s) (se (fun τ => KV 88 4 v0 τ.2) (fun τ => KV 88 4 v0 τ.2)) := by
  unfold F_X12_putsLaw_B107
  refine pk_ite ?_ ?_
  · exact pk_some h
  · refine pk_nn ?_
    refine pk_nn ?_
    extract_lets +onlyGivenNames s_1
    have h_2 : KV 88 4 v0 s_1 := KV_mu h (Or.inl (by decide))
    clear_value s_1
    exact pk_some h_2
theorem K_X12_putsLaw_L107 {v0 : Int32} {x1 : Int32} {s : mG} (h : KV 88 4 v0 s) : pk (F_X12_putsLaw_L107 x1 s) (fun τ => KV 88 4 v0 τ.2) := by
  unfold F_X12_putsLaw_L107
  refine pk_whl (fun v => KV 88 4 v0 v.2) h (fun v hv => ?_)
  obtain ⟨y0, y1⟩ := v
  exact K_X12_putsLaw_B107 hv
theorem K_X12_putsLaw_B13 {v0 : Int32} {x1 : Int32} {s : mG} (h : KV 88 4 v0 s) : pk (F_X12_putsLaw_B13 x1 s) (se (fun τ => KV 88 4 v0 τ.2) (fun τ => KV 88 4 v0 τ.2)) := by
  unfold F_X12_putsLaw_B13
  refine pk_ite ?_ ?_
  · refine pk_b1r ?_
    exact (K_X12_putsLaw_L107 h)
  · refine pk_nn ?_
    refine pk_nn ?_
    extract_lets +onlyGivenNames s_1
    have h_2 : KV 88 4 v0 s_1 := KV_mu h (Or.inl (by decide))
    clear_value s_1
    refine pk_nn ?_
    refine pk_nn ?_
    extract_lets +onlyGivenNames s_3
    have h_4 : KV 88 4 v0 s_3 := KV_mu h_2 (Or.inl (by decide))
    clear_value s_3
    refine pk_nn ?_
    refine pk_nn ?_
    extract_lets +onlyGivenNames s_5
    have h_6 : KV 88 4 v0 s_5 := KV_mu h_4 (Or.inl (by decide))
    clear_value s_5
    refine pk_nn ?_
    refine pk_nn ?_
    extract_lets +onlyGivenNames s_7
    have h_8 : KV 88 4 v0 s_7 := KV_mu h_6 (Or.inl (by decide))
    clear_value s_7
    exact pk_some h_8
theorem K_X12_putsLaw_L13 {v0 : Int32} {x1 : Int32} {s : mG} (h : KV 88 4 v0 s) : pk (F_X12_putsLaw_L13 x1 s) (fun τ => KV 88 4 v0 τ.2) := by
  unfold F_X12_putsLaw_L13
  refine pk_whl (fun v => KV 88 4 v0 v.2) h (fun v hv => ?_)
  obtain ⟨y0, y1⟩ := v
  exact K_X12_putsLaw_B13 hv
theorem K_X12_putsLaw {v0 : Int32} {s : mG} (h : KV 88 4 v0 s) : pk (F_X12_putsLaw s) (fun τ => KV 88 4 v0 τ.2) := by
  unfold F_X12_putsLaw
  extract_lets +onlyGivenNames s_1
  have h_2 : KV 88 4 v0 s_1 := KV_mu h (Or.inl (by decide))
  clear_value s_1
  exact (K_X12_putsLaw_L13 h_2)
theorem K_X12_putsSigns_B47 {v0 : Int32} {x1 : Int32} {s : mG} (h : KV 88 4 v0 s) : pk (F_X12_putsSigns_B47 x1 s) (se (fun τ => KV 88 4 v0 τ.2) (fun τ => KV 88 4 v0 τ.2)) := by
  unfold F_X12_putsSigns_B47
  refine pk_ite ?_ ?_
  · refine pk_b1 (K_X12_forgets h) (fun s_1 (h_2 : KV 88 4 v0 s_1) => ?_)
    exact pk_some h_2
  · refine pk_nn ?_
    extract_lets +onlyGivenNames s_3
    have h_4 : KV 88 4 v0 s_3 := KV_mu h (Or.inl (by decide))
    clear_value s_3
    exact pk_some h_4
theorem K_X12_putsSigns_L47 {v0 : Int32} {x1 : Int32} {s : mG} (h : KV 88 4 v0 s) : pk (F_X12_putsSigns_L47 x1 s) (fun τ => KV 88 4 v0 τ.2) := by
  unfold F_X12_putsSigns_L47
  refine pk_whl (fun v => KV 88 4 v0 v.2) h (fun v hv => ?_)
  obtain ⟨y0, y1⟩ := v
  exact K_X12_putsSigns_B47 hv
theorem K_X12_putsSigns_B13 {v0 : Int32} {x1 : Int32} {s : mG} (h : KV 88 4 v0 s) : pk (F_X12_putsSigns_B13 x1 s) (se (fun τ => KV 88 4 v0 τ.2) (fun τ => KV 88 4 v0 τ.2)) := by
  unfold F_X12_putsSigns_B13
  refine pk_ite ?_ ?_
  · refine pk_b1r ?_
    exact (K_X12_putsSigns_L47 h)
  · refine pk_nn ?_
    refine pk_nn ?_
    extract_lets +onlyGivenNames s_1
    have h_2 : KV 88 4 v0 s_1 := KV_mu h (Or.inl (by decide))
    clear_value s_1
    exact pk_some h_2
theorem K_X12_putsSigns_L13 {v0 : Int32} {x1 : Int32} {s : mG} (h : KV 88 4 v0 s) : pk (F_X12_putsSigns_L13 x1 s) (fun τ => KV 88 4 v0 τ.2) := by
  unfold F_X12_putsSigns_L13
  refine pk_whl (fun v => KV 88 4 v0 v.2) h (fun v hv => ?_)
  obtain ⟨y0, y1⟩ := v
  exact K_X12_putsSigns_B13 hv
theorem K_X12_putsSigns {v0 : Int32} {s : mG} (h : KV 88 4 v0 s) : pk (F_X12_putsSigns s) (fun τ => KV 88 4 v0 τ.2) := by
  unfold F_X12_putsSigns
  extract_lets +onlyGivenNames s_1
  have h_2 : KV 88 4 v0 s_1 := KV_mu h (Or.inl (by decide))
  clear_value s_1
  exact (K_X12_putsSigns_L13 h_2)
theorem K_X12_putsShifts_B13 {v0 : Int32} {x1 : Int32} {s : mG} (h : KV 88 4 v0 s) : pk (F_X12_putsShifts_B13 x1 s) (se (fun τ => KV 88 4 v0 τ.2) (fun τ => KV 88 4 v0 τ.2)) := by
  unfold F_X12_putsShifts_B13
  refine pk_ite ?_ ?_
  · refine pk_b1 (K_X12_forgets h) (fun s_1 (h_2 : KV 88 4 v0 s_1) => ?_)
    exact pk_some h_2
  · refine pk_nn ?_
    refine pk_nn ?_
    extract_lets +onlyGivenNames s_3
    have h_4 : KV 88 4 v0 s_3 := KV_mu h (Or.inl (by decide))
    clear_value s_3
    exact pk_some h_4
theorem K_X12_putsShifts_L13 {v0 : Int32} {x1 : Int32} {s : mG} (h : KV 88 4 v0 s) : pk (F_X12_putsShifts_L13 x1 s) (fun τ => KV 88 4 v0 τ.2) := by
  unfold F_X12_putsShifts_L13
  refine pk_whl (fun v => KV 88 4 v0 v.2) h (fun v hv => ?_)
  obtain ⟨y0, y1⟩ := v
  exact K_X12_putsShifts_B13 hv
theorem K_X12_putsShifts {v0 : Int32} {s : mG} (h : KV 88 4 v0 s) : pk (F_X12_putsShifts s) (fun τ => KV 88 4 v0 τ.2) := by
  unfold F_X12_putsShifts
  extract_lets +onlyGivenNames s_1
  have h_2 : KV 88 4 v0 s_1 := KV_mu h (Or.inl (by decide))
  clear_value s_1
  exact (K_X12_putsShifts_L13 h_2)
theorem K_X12_text_60 {v0 : Int32} {x1 : Int32} {y0 : Int32} {s : mG} (h : KV 88 4 v0 s) : pk (F_X12_text_60 x1 y0 s) (fun τ => KV 88 4 v0 τ.2) := by
  unfold F_X12_text_60
  extract_lets +onlyGivenNames s_1
  have h_2 : KV 88 4 v0 s_1 := KV_mu h (Or.inr (by decide))
  clear_value s_1
  refine pk_ite ?_ ?_
  · extract_lets +onlyGivenNames s_3
    have h_4 : KV 88 4 v0 s_3 := KV_mu h_2 (Or.inr (by decide))
    clear_value s_3
    extract_lets +onlyGivenNames s_5
    have h_6 : KV 88 4 v0 s_5 := KV_mu h_4 (Or.inr (by decide))
    clear_value s_5
    exact pk_some h_6
  · refine pk_ite ?_ ?_
    · refine pk_b2 (K_X12_putsLaw h_2) (fun _ s_7 (h_8 : KV 88 4 v0 s_7) => ?_)
      exact pk_some h_8
    · refine pk_ite ?_ ?_
      · refine pk_b2 (K_X12_putsSigns h_2) (fun _ s_9 (h_10 : KV 88 4 v0 s_9) => ?_)
        exact pk_some h_10
      · refine pk_b2 (K_X12_putsShifts h_2) (fun _ s_11 (h_12 : KV 88 4 v0 s_11) => ?_)
        exact pk_some h_12
theorem K_X12_text {v0 : Int32} {a1 : Int32} {s : mG} (h : KV 88 4 v0 s) : pk (F_X12_text a1 s) (fun τ => KV 88 4 v0 τ.2) := by
  unfold F_X12_text
  extract_lets +onlyGivenNames s_1
  have h_2 : KV 88 4 v0 s_1 := KV_mu h (Or.inr (by decide))
  clear_value s_1
  extract_lets +onlyGivenNames s_3
  have h_4 : KV 88 4 v0 s_3 := KV_mu h_2 (Or.inr (by decide))
  clear_value s_3
  refine pk_b1 pk_top (fun _ _ => ?_)
  refine pk_ite ?_ ?_
  · extract_lets +onlyGivenNames s_5
    have h_6 : KV 88 4 v0 s_5 := KV_mu h_4 (Or.inr (by decide))
    clear_value s_5
    exact pk_some h_6
  · extract_lets +onlyGivenNames s_7
    have h_8 : KV 88 4 v0 s_7 := KV_mu h_4 (Or.inr (by decide))
    clear_value s_7
    extract_lets +onlyGivenNames s_9
    have h_10 : KV 88 4 v0 s_9 := KV_mu h_8 (Or.inr (by decide))
    clear_value s_9
    extract_lets +onlyGivenNames s_11
    have h_12 : KV 88 4 v0 s_11 := KV_mu h_10 (Or.inr (by decide))
    clear_value s_11
    refine pk_b1 (K_X12_next0 h_12) (fun s_13 (h_14 : KV 88 4 v0 s_13) => ?_)
    refine pk_ite ?_ ?_
    · refine pk_b2 (K_X12_readsLaw h_14) (fun _ s_15 (h_16 : KV 88 4 v0 s_15) => ?_)
      exact (K_X12_text_60 h_16)
    · refine pk_b2 (K_X12_readsRows h_14) (fun _ s_17 (h_18 : KV 88 4 v0 s_17) => ?_)
      exact (K_X12_text_60 h_18)
theorem K_X12_comesTo_180 {v0 : Int32} {x1 : Int32} {x3 : Int32} {x4 : Int32} {x5 : Int32} {s : mG} (h : KV 88 4 v0 s) : pk (F_X12_comesTo_180 x1 x3 x4 x5 s) (se (fun τ => KV 88 4 v0 τ.2.2.2.2) (fun τ => KV 88 4 v0 τ.2)) := by
  unfold F_X12_comesTo_180
  exact pk_some h
theorem K_X12_comesTo_86 {v0 : Int32} {x1 : Int32} {x3 : Int32} {x4 : Int32} {x5 : Int32} {y1 : Int32} {y2 : Int32} {s : mG} (h : KV 88 4 v0 s) : pk (F_X12_comesTo_86 x1 x3 x4 x5 y1 y2 s) (se (fun τ => KV 88 4 v0 τ.2.2.2.2) (fun τ => KV 88 4 v0 τ.2)) := by
  unfold F_X12_comesTo_86
  refine pk_nn ?_
  extract_lets +onlyGivenNames s_1
  have h_2 : KV 88 4 v0 s_1 := KV_mu h (Or.inl (by decide))
  clear_value s_1
  exact (K_X12_comesTo_180 h_2)
theorem K_X12_comesTo_B6 {v0 : Int32} {x1 : Int32} {x3 : Int32} {x4 : Int32} {x5 : Int32} {s : mG} (h : KV 88 4 v0 s) : pk (F_X12_comesTo_B6 x1 x3 x4 x5 s) (se (fun τ => KV 88 4 v0 τ.2.2.2.2) (fun τ => KV 88 4 v0 τ.2)) := by
  unfold F_X12_comesTo_B6
  refine pk_ite ?_ ?_
  · exact pk_some h
  · refine pk_nn ?_
    extract_lets +onlyGivenNames v_1
    clear_value v_1
    refine pk_nn ?_
    extract_lets +onlyGivenNames v_2
    clear_value v_2
    refine pk_ite ?_ ?_
    · refine pk_ite ?_ ?_
      · refine pk_nn ?_
        refine pk_nn ?_
        refine pk_nn ?_
        extract_lets +onlyGivenNames s_3
        have h_4 : KV 88 4 v0 s_3 := KV_mu h (Or.inl (by decide))
        clear_value s_3
        exact (K_X12_comesTo_180 h_4)
      · refine pk_ite ?_ ?_
        · refine pk_nn ?_
          refine pk_nn ?_
          extract_lets +onlyGivenNames s_5
          have h_6 : KV 88 4 v0 s_5 := KV_mu h (Or.inl (by decide))
          clear_value s_5
          exact (K_X12_comesTo_180 h_6)
        · refine pk_nn ?_
          refine pk_nn ?_
          refine pk_b1 pk_top (fun _ _ => ?_)
          refine pk_nn ?_
          extract_lets +onlyGivenNames s_7
          have h_8 : KV 88 4 v0 s_7 := KV_mu h (Or.inl (by decide))
          clear_value s_7
          exact (K_X12_comesTo_180 h_8)
    · refine pk_ite ?_ ?_
      · exact (K_X12_comesTo_86 h)
      · refine pk_nn ?_
        exact (K_X12_comesTo_86 h)
theorem K_X12_comesTo_L6 {v0 : Int32} {x1 : Int32} {x3 : Int32} {x4 : Int32} {x5 : Int32} {s : mG} (h : KV 88 4 v0 s) : pk (F_X12_comesTo_L6 x1 x3 x4 x5 s) (fun τ => KV 88 4 v0 τ.2) := by
  unfold F_X12_comesTo_L6
  refine pk_whl (fun v => KV 88 4 v0 v.2.2.2.2) h (fun v hv => ?_)
  obtain ⟨y0, y1, y2, y3, y4⟩ := v
  exact K_X12_comesTo_B6 hv
theorem K_X12_comesTo {v0 : Int32} {a1 : Int32} {a2 : Int32} {a3 : Int32} {s : mG} (h : KV 88 4 v0 s) : pk (F_X12_comesTo a1 a2 a3 s) (fun τ => KV 88 4 v0 τ.2) := by
  unfold F_X12_comesTo
  exact (K_X12_comesTo_L6 h)
theorem K_X12_isSo_52 {v0 : Int32} {s : mG} (h : KV 88 4 v0 s) : pk (F_X12_isSo_52 s) (fun τ => KV 88 4 v0 τ.2) := by
  unfold F_X12_isSo_52
  exact pk_some h
theorem K_X12_isSo {v0 : Int32} {a1 : Int32} {s : mG} (h : KV 88 4 v0 s) : pk (F_X12_isSo a1 s) (fun τ => KV 88 4 v0 τ.2) := by
  unfold F_X12_isSo
  refine pk_nn ?_
  refine pk_nn ?_
  refine pk_ite ?_ ?_
  · exact (K_X12_isSo_52 h)
  · refine pk_nn ?_
    refine pk_nn ?_
    refine pk_b2 (K_X12_comesTo h) (fun _ s_1 (h_2 : KV 88 4 v0 s_1) => ?_)
    refine pk_ite ?_ ?_
    · exact (K_X12_isSo_52 h_2)
    · exact pk_some h_2
theorem K_X12_saysIn_187 {v0 : Int32} {x1 : Int32} {x2 : Int32} {x6 : Int32} {s : mG} (h : KV 88 4 v0 s) : pk (F_X12_saysIn_187 x1 x2 x6 s) (se (fun τ => KV 88 4 v0 τ.2.2.2) (fun τ => KV 88 4 v0 τ.2)) := by
  unfold F_X12_saysIn_187
  exact pk_some h
theorem K_X12_saysIn_B113 {v0 : Int32} {x1 : Int32} {x2 : Int32} {x6 : Int32} {s : mG} (h : KV 88 4 v0 s) : pk (F_X12_saysIn_B113 x1 x2 x6 s) (se (fun τ => KV 88 4 v0 τ.2.2.2) (fun τ => KV 88 4 v0 τ.2)) := by
  unfold F_X12_saysIn_B113
  refine pk_ite ?_ ?_
  · refine pk_b1 pk_top (fun _ _ => ?_)
    exact pk_some h
  · refine pk_nn ?_
    refine pk_ite ?_ ?_
    · refine pk_b2 (K_X12_isSo h) (fun _ s_1 (h_2 : KV 88 4 v0 s_1) => ?_)
      refine pk_ite ?_ ?_
      · exact (K_X12_saysIn_187 h_2)
      · refine pk_nn ?_
        refine pk_nn ?_
        refine pk_b2 (K_X12_comesTo h_2) (fun _ s_3 (h_4 : KV 88 4 v0 s_3) => ?_)
        refine pk_b1 pk_top (fun _ _ => ?_)
        refine pk_b1 pk_top (fun _ _ => ?_)
        exact pk_some h_4
    · exact (K_X12_saysIn_187 h)
theorem K_X12_saysIn_L113 {v0 : Int32} {x1 : Int32} {x2 : Int32} {x6 : Int32} {s : mG} (h : KV 88 4 v0 s) : pk (F_X12_saysIn_L113 x1 x2 x6 s) (fun τ => KV 88 4 v0 τ.2) := by
  unfold F_X12_saysIn_L113
  refine pk_whl (fun v => KV 88 4 v0 v.2.2.2) h (fun v hv => ?_)
  obtain ⟨y0, y1, y2, y3⟩ := v
  exact K_X12_saysIn_B113 hv
theorem K_X12_saysIn_100 {v0 : Int32} {x1 : Int32} {x2 : Int32} {x5 : Int32} {y1 : Int32} {y2 : Int32} {s : mG} (h : KV 88 4 v0 s) : pk (F_X12_saysIn_100 x1 x2 x5 y1 y2 s) (fun τ => KV 88 4 v0 τ.2) := by
  unfold F_X12_saysIn_100
  refine pk_nn ?_
  extract_lets +onlyGivenNames s_1
  have h_2 : KV 88 4 v0 s_1 := KV_mu h (Or.inl (by decide))
  clear_value s_1
  extract_lets +onlyGivenNames s_3
  have h_4 : KV 88 4 v0 s_3 := KV_mu h_2 (Or.inl (by decide))
  clear_value s_3
  exact (K_X12_saysIn_L113 h_4)
theorem K_X12_saysIn {v0 : Int32} {a1 : Int32} {a2 : Int32} {a3 : Int32} {a4 : Int32} {a5 : Int32} {s : mG} (h : KV 88 4 v0 s) : pk (F_X12_saysIn a1 a2 a3 a4 a5 s) (fun τ => KV 88 4 v0 τ.2) := by
  unfold F_X12_saysIn
  extract_lets +onlyGivenNames s_1
  have h_2 : KV 88 4 v0 s_1 := KV_mu h (Or.inl (by decide))
  clear_value s_1
  refine pk_nn ?_
  extract_lets +onlyGivenNames s_3
  have h_4 : KV 88 4 v0 s_3 := KV_mu h_2 (Or.inl (by decide))
  clear_value s_3
  refine pk_nn ?_
  extract_lets +onlyGivenNames s_5
  have h_6 : KV 88 4 v0 s_5 := KV_mu h_4 (Or.inl (by decide))
  clear_value s_5
  extract_lets +onlyGivenNames s_7
  have h_8 : KV 88 4 v0 s_7 := KV_mu h_6 (Or.inl (by decide))
  clear_value s_7
  extract_lets +onlyGivenNames s_9
  have h_10 : KV 88 4 v0 s_9 := KV_mu h_8 (Or.inl (by decide))
  clear_value s_9
  extract_lets +onlyGivenNames s_11
  have h_12 : KV 88 4 v0 s_11 := KV_mu h_10 (Or.inl (by decide))
  clear_value s_11
  extract_lets +onlyGivenNames s_13
  have h_14 : KV 88 4 v0 s_13 := KV_mu h_12 (Or.inl (by decide))
  clear_value s_13
  refine pk_b1 pk_top (fun _ _ => ?_)
  refine pk_ite ?_ ?_
  · exact (K_X12_saysIn_100 h_14)
  · exact (K_X12_saysIn_100 h_14)
theorem K_X12_saysNow {v0 : Int32} {a1 : Int32} {a2 : Int32} {s : mG} (h : KV 88 4 v0 s) : pk (F_X12_saysNow a1 a2 s) (fun τ => KV 88 4 v0 τ.2) := by
  unfold F_X12_saysNow
  refine pk_nn ?_
  refine pk_b2 (K_X12_saysIn h) (fun _ s_1 (h_2 : KV 88 4 v0 s_1) => ?_)
  exact pk_some h_2
theorem K_X12_keeps_B51 {v0 : Int32} {x1 : Int32} {s : mG} (h : KV 88 4 v0 s) : pk (F_X12_keeps_B51 x1 s) (se (fun τ => KV 88 4 v0 τ.2) (fun τ => KV 88 4 v0 τ)) := by
  unfold F_X12_keeps_B51
  refine pk_ite ?_ ?_
  · extract_lets +onlyGivenNames s_1
    have h_2 : KV 88 4 v0 s_1 := KV_mu h (Or.inr (by decide))
    clear_value s_1
    exact pk_some h_2
  · refine pk_nn ?_
    refine pk_nn ?_
    extract_lets +onlyGivenNames s_3
    have h_4 : KV 88 4 v0 s_3 := KV_mu h (Or.inl (by decide))
    clear_value s_3
    exact pk_some h_4
theorem K_X12_keeps_L51 {v0 : Int32} {x1 : Int32} {s : mG} (h : KV 88 4 v0 s) : pk (F_X12_keeps_L51 x1 s) (fun τ => KV 88 4 v0 τ) := by
  unfold F_X12_keeps_L51
  refine pk_whl (fun v => KV 88 4 v0 v.2) h (fun v hv => ?_)
  obtain ⟨y0, y1⟩ := v
  exact K_X12_keeps_B51 hv
theorem K_X12_keeps_49 {v0 : Int32} {s : mG} (h : KV 88 4 v0 s) : pk (F_X12_keeps_49 s) (fun τ => KV 88 4 v0 τ) := by
  unfold F_X12_keeps_49
  exact (K_X12_keeps_L51 h)
theorem K_X12_keeps_B11 {v0 : Int32} {x1 : Int32} {s : mG} (h : KV 88 4 v0 s) : pk (F_X12_keeps_B11 x1 s) (se (fun τ => KV 88 4 v0 τ.2) (fun τ => KV 88 4 v0 τ)) := by
  unfold F_X12_keeps_B11
  refine pk_ite ?_ ?_
  · extract_lets +onlyGivenNames s_1
    have h_2 : KV 88 4 v0 s_1 := KV_mu h (Or.inr (by decide))
    clear_value s_1
    refine pk_b1r ?_
    exact (K_X12_keeps_49 h_2)
  · refine pk_nn ?_
    refine pk_nn ?_
    extract_lets +onlyGivenNames s_3
    have h_4 : KV 88 4 v0 s_3 := KV_mu h (Or.inl (by decide))
    clear_value s_3
    exact pk_some h_4
theorem K_X12_keeps_L11 {v0 : Int32} {x1 : Int32} {s : mG} (h : KV 88 4 v0 s) : pk (F_X12_keeps_L11 x1 s) (fun τ => KV 88 4 v0 τ) := by
  unfold F_X12_keeps_L11
  refine pk_whl (fun v => KV 88 4 v0 v.2) h (fun v hv => ?_)
  obtain ⟨y0, y1⟩ := v
  exact K_X12_keeps_B11 hv
theorem K_X12_keeps {v0 : Int32} {s : mG} (h : KV 88 4 v0 s) : pk (F_X12_keeps s) (fun τ => KV 88 4 v0 τ) := by
  unfold F_X12_keeps
  refine pk_ite ?_ ?_
  · exact (K_X12_keeps_L11 h)
  · exact (K_X12_keeps_49 h)
theorem K_X12_undo_B21 {v0 : Int32} {x1 : Int32} {s : mG} (h : KV 88 4 v0 s) : pk (F_X12_undo_B21 x1 s) (se (fun τ => KV 88 4 v0 τ.2) (fun τ => KV 88 4 v0 τ.2)) := by
  unfold F_X12_undo_B21
  refine pk_ite ?_ ?_
  · exact pk_some h
  · refine pk_nn ?_
    refine pk_nn ?_
    extract_lets +onlyGivenNames s_1
    have h_2 : KV 88 4 v0 s_1 := KV_mu h (Or.inl (by decide))
    clear_value s_1
    exact pk_some h_2
theorem K_X12_undo_L21 {v0 : Int32} {x1 : Int32} {s : mG} (h : KV 88 4 v0 s) : pk (F_X12_undo_L21 x1 s) (fun τ => KV 88 4 v0 τ.2) := by
  unfold F_X12_undo_L21
  refine pk_whl (fun v => KV 88 4 v0 v.2) h (fun v hv => ?_)
  obtain ⟨y0, y1⟩ := v
  exact K_X12_undo_B21 hv
theorem K_X12_undo {v0 : Int32} {s : mG} (h : KV 88 4 v0 s) : pk (F_X12_undo s) (fun τ => KV 88 4 v0 τ.2) := by
  unfold F_X12_undo
  refine pk_ite ?_ ?_
  · exact pk_some h
  · extract_lets +onlyGivenNames s_1
    have h_2 : KV 88 4 v0 s_1 := KV_mu h (Or.inr (by decide))
    clear_value s_1
    exact (K_X12_undo_L21 h_2)
theorem K_X12_notes {v0 : Int32} {a1 : Int32} {a2 : Int32} {a3 : Int32} {a4 : Int32} {s : mG} (h : KV 88 4 v0 s) : pk (F_X12_notes a1 a2 a3 a4 s) (fun τ => KV 88 4 v0 τ) := by
  unfold F_X12_notes
  refine pk_ite ?_ ?_
  · exact pk_some h
  · extract_lets +onlyGivenNames v_1
    clear_value v_1
    refine pk_nn ?_
    extract_lets +onlyGivenNames s_2
    have h_3 : KV 88 4 v0 s_2 := KV_mu h (Or.inl (by decide))
    clear_value s_2
    refine pk_nn ?_
    extract_lets +onlyGivenNames s_4
    have h_5 : KV 88 4 v0 s_4 := KV_mu h_3 (Or.inl (by decide))
    clear_value s_4
    refine pk_nn ?_
    extract_lets +onlyGivenNames s_6
    have h_7 : KV 88 4 v0 s_6 := KV_mu h_5 (Or.inl (by decide))
    clear_value s_6
    refine pk_nn ?_
    extract_lets +onlyGivenNames s_8
    have h_9 : KV 88 4 v0 s_8 := KV_mu h_7 (Or.inl (by decide))
    clear_value s_8
    refine pk_nn ?_
    extract_lets +onlyGivenNames s_10
    have h_11 : KV 88 4 v0 s_10 := KV_mu h_9 (Or.inl (by decide))
    clear_value s_10
    extract_lets +onlyGivenNames s_12
    have h_13 : KV 88 4 v0 s_12 := KV_mu h_11 (Or.inl (by decide))
    clear_value s_12
    exact pk_some h_13
end
end
/-! 59.w3.keep -/
section
noncomputable section
theorem K_X12_hangsOn_62 {v0 : Int32} {x1 : Int32} {s : mG} (h : KV 88 4 v0 s) : pk (F_X12_hangsOn_62 x1 s) (fun τ => KV 88 4 v0 τ.2) := by
  unfold F_X12_hangsOn_62
  refine pk_b1 pk_top (fun _ _ => ?_)
  refine pk_ite ?_ ?_
  · exact pk_some h
  · exact pk_some h
theorem K_X12_hangsOn_29 {v0 : Int32} {x1 : Int32} {y0 : Int32} {s : mG} (h : KV 88 4 v0 s) : pk (F_X12_hangsOn_29 x1 y0 s) (fun τ => KV 88 4 v0 τ.2) := by
  unfold F_X12_hangsOn_29
  refine pk_nn ?_
  extract_lets +onlyGivenNames v_1
  clear_value v_1
  refine pk_ite ?_ ?_
  · exact (K_X12_hangsOn_62 h)
  · refine pk_b1 pk_top (fun _ _ => ?_)
    refine pk_ite ?_ ?_
    · exact pk_some h
    · exact (K_X12_hangsOn_62 h)
theorem K_X12_hangsOn {v0 : Int32} {a1 : Int32} {a2 : Int32} {a3 : Int32} {s : mG} (h : KV 88 4 v0 s) : pk (F_X12_hangsOn a1 a2 a3 s) (fun τ => KV 88 4 v0 τ.2) := by
  unfold F_X12_hangsOn
  refine pk_b2 (K_X12_draw h) (fun _ s_1 (h_2 : KV 88 4 v0 s_1) => ?_)
  refine pk_ite ?_ ?_
  · refine pk_b2 (K_X12_draw h_2) (fun _ s_3 (h_4 : KV 88 4 v0 s_3) => ?_)
    refine pk_ite ?_ ?_
    · exact (K_X12_hangsOn_29 h_4)
    · exact (K_X12_hangsOn_29 h_4)
  · exact pk_some h_2
theorem K_X12_isMoved_147 {v0 : Int32} {x1 : Int32} {x7 : Int32} {y1 : Int32} {s : mG} (h : KV 88 4 v0 s) : pk (F_X12_isMoved_147 x1 x7 y1 s) (fun τ => KV 88 4 v0 τ.2) := by
  unfold F_X12_isMoved_147
  refine pk_b1 pk_top (fun _ _ => ?_)
  refine pk_b1 (K_X12_notes h) (fun s_1 (h_2 : KV 88 4 v0 s_1) => ?_)
  exact pk_some h_2
theorem K_X12_isMoved_136 {v0 : Int32} {x1 : Int32} {x2 : Int32} {x7 : Int32} {y1 : Int32} {y2 : Int32} {s : mG} (h : KV 88 4 v0 s) : pk (F_X12_isMoved_136 x1 x2 x7 y1 y2 s) (fun τ => KV 88 4 v0 τ.2) := by
  unfold F_X12_isMoved_136
  refine pk_nn ?_
  extract_lets +onlyGivenNames s_1
  have h_2 : KV 88 4 v0 s_1 := KV_mu h (Or.inl (by decide))
  clear_value s_1
  refine pk_ite ?_ ?_
  · exact (K_X12_isMoved_147 h_2)
  · exact (K_X12_isMoved_147 h_2)
theorem K_X12_isMoved_110 {v0 : Int32} {x1 : Int32} {x2 : Int32} {x5 : Int32} {x6 : Int32} {x7 : Int32} {y1 : Int32} {y2 : Int32} {s : mG} (h : KV 88 4 v0 s) : pk (F_X12_isMoved_110 x1 x2 x5 x6 x7 y1 y2 s) (fun τ => KV 88 4 v0 τ.2) := by
  unfold F_X12_isMoved_110
  refine pk_nn ?_
  extract_lets +onlyGivenNames s_1
  have h_2 : KV 88 4 v0 s_1 := KV_mu h (Or.inl (by decide))
  clear_value s_1
  refine pk_ite ?_ ?_
  · refine pk_b2 (K_X12_hangsOn h_2) (fun _ s_3 (h_4 : KV 88 4 v0 s_3) => ?_)
    exact (K_X12_isMoved_136 h_4)
  · exact (K_X12_isMoved_136 h_2)
theorem K_X12_isMoved_92 {v0 : Int32} {x1 : Int32} {x2 : Int32} {x5 : Int32} {x6 : Int32} {y0 : Int32} {s : mG} (h : KV 88 4 v0 s) : pk (F_X12_isMoved_92 x1 x2 x5 x6 y0 s) (fun τ => KV 88 4 v0 τ.2) := by
  unfold F_X12_isMoved_92
  refine pk_ite ?_ ?_
  · exact (K_X12_isMoved_110 h)
  · exact (K_X12_isMoved_110 h)
theorem K_X12_isMoved_30 {v0 : Int32} {x1 : Int32} {x2 : Int32} {y1 : Int32} {s : mG} (h : KV 88 4 v0 s) : pk (F_X12_isMoved_30 x1 x2 y1 s) (fun τ => KV 88 4 v0 τ.2) := by
  unfold F_X12_isMoved_30
  refine pk_b2 (K_X12_saysNow h) (fun _ s_1 (h_2 : KV 88 4 v0 s_1) => ?_)
  refine pk_b2 (K_X12_saysNow h_2) (fun _ s_3 (h_4 : KV 88 4 v0 s_3) => ?_)
  refine pk_b2 (K_X12_saysNow h_4) (fun _ s_5 (h_6 : KV 88 4 v0 s_5) => ?_)
  refine pk_b2 (K_X12_saysNow h_6) (fun _ s_7 (h_8 : KV 88 4 v0 s_7) => ?_)
  refine pk_b2 (K_X12_draw h_8) (fun _ s_9 (h_10 : KV 88 4 v0 s_9) => ?_)
  refine pk_ite ?_ ?_
  · refine pk_b2 (K_X12_draw h_10) (fun _ s_11 (h_12 : KV 88 4 v0 s_11) => ?_)
    refine pk_ite ?_ ?_
    · exact (K_X12_isMoved_92 h_12)
    · exact (K_X12_isMoved_92 h_12)
  · exact pk_some h_10
theorem K_X12_isMoved_17 {v0 : Int32} {x1 : Int32} {y0 : Int32} {s : mG} (h : KV 88 4 v0 s) : pk (F_X12_isMoved_17 x1 y0 s) (fun τ => KV 88 4 v0 τ.2) := by
  unfold F_X12_isMoved_17
  refine pk_ite ?_ ?_
  · exact (K_X12_isMoved_30 h)
  · exact (K_X12_isMoved_30 h)
theorem K_X12_isMoved {v0 : Int32} {a1 : Int32} {s : mG} (h : KV 88 4 v0 s) : pk (F_X12_isMoved a1 s) (fun τ => KV 88 4 v0 τ.2) := by
  unfold F_X12_isMoved
  refine pk_nn ?_
  refine pk_ite ?_ ?_
  · exact (K_X12_isMoved_17 h)
  · exact (K_X12_isMoved_17 h)
theorem K_X12_anHour_65 {v0 : Int32} {x2 : Int32} {y0 : Int32} {y1 : Int32} {s : mG} (h : KV 88 4 v0 s) : pk (F_X12_anHour_65 x2 y0 y1 s) (se (fun τ => KV 88 4 v0 τ.2.2) (fun τ => KV 88 4 v0 τ.2)) := by
  unfold F_X12_anHour_65
  exact pk_some h
theorem K_X12_anHour_54 {v0 : Int32} {x1 : Int32} {x2 : Int32} {x3 : Int32} {y1 : Int32} {y2 : Int32} {s : mG} (h : KV 88 4 v0 s) : pk (F_X12_anHour_54 x1 x2 x3 y1 y2 s) (se (fun τ => KV 88 4 v0 τ.2.2) (fun τ => KV 88 4 v0 τ.2)) := by
  unfold F_X12_anHour_54
  refine pk_nn ?_
  extract_lets +onlyGivenNames s_1
  have h_2 : KV 88 4 v0 s_1 := KV_mu h (Or.inl (by decide))
  clear_value s_1
  refine pk_ite ?_ ?_
  · exact (K_X12_anHour_65 h_2)
  · exact (K_X12_anHour_65 h_2)
theorem K_X12_anHour_B4 {v0 : Int32} {x1 : Int32} {x2 : Int32} {s : mG} (h : KV 88 4 v0 s) : pk (F_X12_anHour_B4 x1 x2 s) (se (fun τ => KV 88 4 v0 τ.2.2) (fun τ => KV 88 4 v0 τ.2)) := by
  unfold F_X12_anHour_B4
  refine pk_ite ?_ ?_
  · extract_lets +onlyGivenNames s_1
    have h_2 : KV 88 4 v0 s_1 := KV_mu h (Or.inl (by decide))
    clear_value s_1
    exact pk_some h_2
  · refine pk_b2 (K_X12_isMoved h) (fun _ s_3 (h_4 : KV 88 4 v0 s_3) => ?_)
    refine pk_ite ?_ ?_
    · refine pk_nn ?_
      refine pk_b1 pk_top (fun _ _ => ?_)
      exact (K_X12_anHour_54 h_4)
    · exact (K_X12_anHour_54 h_4)
theorem K_X12_anHour_L4 {v0 : Int32} {x1 : Int32} {x2 : Int32} {s : mG} (h : KV 88 4 v0 s) : pk (F_X12_anHour_L4 x1 x2 s) (fun τ => KV 88 4 v0 τ.2) := by
  unfold F_X12_anHour_L4
  refine pk_whl (fun v => KV 88 4 v0 v.2.2) h (fun v hv => ?_)
  obtain ⟨y0, y1, y2⟩ := v
  exact K_X12_anHour_B4 hv
theorem K_X12_anHour {v0 : Int32} {s : mG} (h : KV 88 4 v0 s) : pk (F_X12_anHour s) (fun τ => KV 88 4 v0 τ.2) := by
  unfold F_X12_anHour
  exact (K_X12_anHour_L4 h)
theorem K_X12_hours_24 {v0 : Int32} {s : mG} (h : KV 88 4 v0 s) : pk (F_X12_hours_24 s) (fun τ => KV 88 4 v0 τ.2) := by
  unfold F_X12_hours_24
  exact pk_some h
theorem K_X12_hours_B30 {v0 : Int32} {x1 : Int32} {x2 : Int32} {x3 : Int32} {s : mG} (h : KV 88 4 v0 s) : pk (F_X12_hours_B30 x1 x2 x3 s) (se (fun τ => KV 88 4 v0 τ.2.2.2) (fun τ => KV 88 4 v0 τ.2)) := by
  unfold F_X12_hours_B30
  refine pk_ite ?_ ?_
  · exact pk_some h
  · refine pk_b1 (K_X12_keeps h) (fun s_1 (h_2 : KV 88 4 v0 s_1) => ?_)
    refine pk_b2 (K_X12_anHour h_2) (fun _ s_3 (h_4 : KV 88 4 v0 s_3) => ?_)
    exact pk_some h_4
theorem K_X12_hours_L30 {v0 : Int32} {x1 : Int32} {x2 : Int32} {x3 : Int32} {s : mG} (h : KV 88 4 v0 s) : pk (F_X12_hours_L30 x1 x2 x3 s) (fun τ => KV 88 4 v0 τ.2) := by
  unfold F_X12_hours_L30
  refine pk_whl (fun v => KV 88 4 v0 v.2.2.2) h (fun v hv => ?_)
  obtain ⟨y0, y1, y2, y3⟩ := v
  exact K_X12_hours_B30 hv
theorem K_X12_hours {v0 : Int32} {a1 : Int32} {s : mG} (h : KV 88 4 v0 s) : pk (F_X12_hours a1 s) (fun τ => KV 88 4 v0 τ.2) := by
  unfold F_X12_hours
  refine pk_b1 pk_top (fun _ _ => ?_)
  refine pk_ite ?_ ?_
  · exact (K_X12_hours_24 h)
  · refine pk_ite ?_ ?_
    · exact (K_X12_hours_L30 h)
    · exact (K_X12_hours_24 h)
theorem K_X12_hang_36 {v0 : Int32} {s : mG} (h : KV 88 4 v0 s) : pk (F_X12_hang_36 s) (fun τ => KV 88 4 v0 τ.2) := by
  unfold F_X12_hang_36
  exact pk_some h
theorem K_X12_hang {v0 : Int32} {a1 : Int32} {a2 : Int32} {s : mG} (h : KV 88 4 v0 s) : pk (F_X12_hang a1 a2 s) (fun τ => KV 88 4 v0 τ.2) := by
  unfold F_X12_hang
  refine pk_b1 pk_top (fun _ _ => ?_)
  refine pk_ite ?_ ?_
  · exact (K_X12_hang_36 h)
  · refine pk_b1 pk_top (fun _ _ => ?_)
    refine pk_ite ?_ ?_
    · exact (K_X12_hang_36 h)
    · refine pk_nn ?_
      refine pk_ite ?_ ?_
      · exact (K_X12_hang_36 h)
      · refine pk_b1 pk_top (fun _ _ => ?_)
        refine pk_ite ?_ ?_
        · refine pk_b1 (K_X12_keeps h) (fun s_1 (h_2 : KV 88 4 v0 s_1) => ?_)
          refine pk_nn ?_
          extract_lets +onlyGivenNames s_3
          have h_4 : KV 88 4 v0 s_3 := KV_mu h_2 (Or.inl (by decide))
          clear_value s_3
          refine pk_b1 (K_X12_notes h_4) (fun s_5 (h_6 : KV 88 4 v0 s_5) => ?_)
          exact pk_some h_6
        · exact (K_X12_hang_36 h)
theorem K_X12_looks_43 {v0 : Int32} {s : mG} (h : KV 88 4 v0 s) : pk (F_X12_looks_43 s) (fun τ => KV 88 4 v0 τ.2) := by
  unfold F_X12_looks_43
  exact pk_some h
theorem K_X12_looks {v0 : Int32} {a1 : Int32} {a2 : Int32} {a3 : Int32} {s : mG} (h : KV 88 4 v0 s) : pk (F_X12_looks a1 a2 a3 s) (fun τ => KV 88 4 v0 τ.2) := by
  unfold F_X12_looks
  refine pk_b1 pk_top (fun _ _ => ?_)
  refine pk_ite ?_ ?_
  · exact (K_X12_looks_43 h)
  · refine pk_b1 pk_top (fun _ _ => ?_)
    refine pk_ite ?_ ?_
    · exact (K_X12_looks_43 h)
    · refine pk_b1 pk_top (fun _ _ => ?_)
      refine pk_ite ?_ ?_
      · exact (K_X12_looks_43 h)
      · refine pk_nn ?_
        refine pk_ite ?_ ?_
        · exact (K_X12_looks_43 h)
        · refine pk_b1 (K_X12_keeps h) (fun s_1 (h_2 : KV 88 4 v0 s_1) => ?_)
          refine pk_nn ?_
          extract_lets +onlyGivenNames s_3
          have h_4 : KV 88 4 v0 s_3 := KV_mu h_2 (Or.inl (by decide))
          clear_value s_3
          exact pk_some h_4
theorem K_X12_sureOf_70 {v0 : Int32} {x1 : Int32} {x2 : Int64} {x4 : Int32} {s : mG} (h : KV 88 4 v0 s) : pk (F_X12_sureOf_70 x1 x2 x4 s) (se (fun τ => KV 88 4 v0 τ.2.2.2) (fun τ => KV 88 4 v0 τ.2)) := by
  unfold F_X12_sureOf_70
  exact pk_some h
theorem K_X12_sureOf_B16 {v0 : Int32} {x1 : Int32} {x2 : Int64} {x4 : Int32} {s : mG} (h : KV 88 4 v0 s) : pk (F_X12_sureOf_B16 x1 x2 x4 s) (se (fun τ => KV 88 4 v0 τ.2.2.2) (fun τ => KV 88 4 v0 τ.2)) := by
  unfold F_X12_sureOf_B16
  refine pk_ite ?_ ?_
  · exact pk_some h
  · refine pk_nn ?_
    refine pk_ite ?_ ?_
    · exact (K_X12_sureOf_70 h)
    · refine pk_nn ?_
      refine pk_b1 pk_top (fun _ _ => ?_)
      exact (K_X12_sureOf_70 h)
theorem K_X12_sureOf_L16 {v0 : Int32} {x1 : Int32} {x2 : Int64} {x4 : Int32} {s : mG} (h : KV 88 4 v0 s) : pk (F_X12_sureOf_L16 x1 x2 x4 s) (fun τ => KV 88 4 v0 τ.2) := by
  unfold F_X12_sureOf_L16
  refine pk_whl (fun v => KV 88 4 v0 v.2.2.2) h (fun v hv => ?_)
  obtain ⟨y0, y1, y2, y3⟩ := v
  exact K_X12_sureOf_B16 hv
theorem K_X12_sureOf {v0 : Int32} {a1 : Int32} {s : mG} (h : KV 88 4 v0 s) : pk (F_X12_sureOf a1 s) (fun τ => KV 88 4 v0 τ.2) := by
  unfold F_X12_sureOf
  refine pk_b2 (K_X12_saysNow h) (fun _ s_1 (h_2 : KV 88 4 v0 s_1) => ?_)
  extract_lets +onlyGivenNames v_3
  clear_value v_3
  exact (K_X12_sureOf_L16 h_2)
theorem K_X12_next {v0 : Int32} {a1 : Int32} {s : mG} (h : KV 88 4 v0 s) : pk (F_X12_next a1 s) (fun τ => KV 88 4 v0 τ.2) := by
  unfold F_X12_next
  refine pk_b1 pk_top (fun _ _ => ?_)
  refine pk_ite ?_ ?_
  · exact pk_some h
  · refine pk_b2 (K_X12_sureOf h) (fun _ s_1 (h_2 : KV 88 4 v0 s_1) => ?_)
    refine pk_b1 pk_top (fun _ _ => ?_)
    refine pk_b1 pk_top (fun _ _ => ?_)
    exact pk_some h_2
theorem K_X12_looksAt_98 {v0 : Int32} {x2 : Int32} {x6 : Int32} {s : mG} (h : KV 88 4 v0 s) : pk (F_X12_looksAt_98 x2 x6 s) (fun τ => KV 88 4 v0 τ.2) := by
  unfold F_X12_looksAt_98
  refine pk_ite ?_ ?_
  · exact pk_some h
  · exact pk_some h
theorem K_X12_looksAt_70 {v0 : Int32} {x2 : Int32} {x5 : Int32} {x6 : Int32} {x7 : Int32} {y1 : Int64} {y2 : Int32} {y3 : Int32} {s : mG} (h : KV 88 4 v0 s) : pk (F_X12_looksAt_70 x2 x5 x6 x7 y1 y2 y3 s) (se (fun τ => KV 88 4 v0 τ.2.2.2.2.2) (fun τ => KV 88 4 v0 τ.2)) := by
  unfold F_X12_looksAt_70
  refine pk_b1 pk_top (fun _ _ => ?_)
  extract_lets +onlyGivenNames v_1
  clear_value v_1
  refine pk_b1 pk_top (fun _ _ => ?_)
  exact pk_some h
theorem K_X12_looksAt_B35 {v0 : Int32} {x2 : Int32} {x3 : Int64} {x5 : Int32} {x6 : Int32} {x7 : Int32} {s : mG} (h : KV 88 4 v0 s) : pk (F_X12_looksAt_B35 x2 x3 x5 x6 x7 s) (se (fun τ => KV 88 4 v0 τ.2.2.2.2.2) (fun τ => KV 88 4 v0 τ.2)) := by
  unfold F_X12_looksAt_B35
  refine pk_ite ?_ ?_
  · refine pk_b1r ?_
    exact (K_X12_looksAt_98 h)
  · refine pk_ite ?_ ?_
    · refine pk_b1r ?_
      exact (K_X12_looksAt_98 h)
    · refine pk_b1 pk_top (fun _ _ => ?_)
      refine pk_ite ?_ ?_
      · exact (K_X12_looksAt_70 h)
      · exact (K_X12_looksAt_70 h)
theorem K_X12_looksAt_L35 {v0 : Int32} {x2 : Int32} {x3 : Int64} {x5 : Int32} {x6 : Int32} {x7 : Int32} {s : mG} (h : KV 88 4 v0 s) : pk (F_X12_looksAt_L35 x2 x3 x5 x6 x7 s) (fun τ => KV 88 4 v0 τ.2) := by
  unfold F_X12_looksAt_L35
  refine pk_whl (fun v => KV 88 4 v0 v.2.2.2.2.2) h (fun v hv => ?_)
  obtain ⟨y0, y1, y2, y3, y4, y5⟩ := v
  exact K_X12_looksAt_B35 hv
theorem K_X12_looksAt {v0 : Int32} {a1 : Int32} {a2 : Int32} {s : mG} (h : KV 88 4 v0 s) : pk (F_X12_looksAt a1 a2 s) (fun τ => KV 88 4 v0 τ.2) := by
  unfold F_X12_looksAt
  refine pk_b1 pk_top (fun _ _ => ?_)
  refine pk_ite ?_ ?_
  · exact pk_some h
  · refine pk_b2 (K_X12_sureOf h) (fun _ s_1 (h_2 : KV 88 4 v0 s_1) => ?_)
    refine pk_b1 pk_top (fun _ _ => ?_)
    refine pk_b1 pk_top (fun _ _ => ?_)
    exact (K_X12_looksAt_L35 h_2)
theorem K_X12_say_22 {v0 : Int32} {s : mG} (h : KV 88 4 v0 s) : pk (F_X12_say_22 s) (fun τ => KV 88 4 v0 τ.2) := by
  unfold F_X12_say_22
  exact pk_some h
theorem K_X12_say {v0 : Int32} {a1 : Int32} {a2 : Int32} {a3 : Int32} {s : mG} (h : KV 88 4 v0 s) : pk (F_X12_say a1 a2 a3 s) (fun τ => KV 88 4 v0 τ.2) := by
  unfold F_X12_say
  refine pk_b1 pk_top (fun _ _ => ?_)
  refine pk_ite ?_ ?_
  · exact (K_X12_say_22 h)
  · refine pk_b1 pk_top (fun _ _ => ?_)
    refine pk_ite ?_ ?_
    · exact (K_X12_say_22 h)
    · refine pk_b1 pk_top (fun _ _ => ?_)
      refine pk_ite ?_ ?_
      · exact (K_X12_say_22 h)
      · refine pk_b2 (K_X12_sureOf h) (fun _ s_1 (h_2 : KV 88 4 v0 s_1) => ?_)
        refine pk_ite ?_ ?_
        · exact pk_some h_2
        · exact pk_some h_2
theorem K_X12_caller_59 {v0 : Int32} {s : mG} (h : KV 88 4 v0 s) : pk (F_X12_caller_59 s) (fun τ => KV 88 4 v0 τ.2) := by
  unfold F_X12_caller_59
  exact pk_some h
theorem K_X12_caller {v0 : Int32} {a1 : Int32} {a2 : Int32} {a3 : Int32} {s : mG} (h : KV 88 4 v0 s) : pk (F_X12_caller a1 a2 a3 s) (fun τ => KV 88 4 v0 τ.2) := by
  unfold F_X12_caller
  refine pk_ite ?_ ?_
  · extract_lets +onlyGivenNames s_1
    have h_2 : KV 88 4 v0 s_1 := KV_mu h (Or.inl (by decide))
    clear_value s_1
    exact pk_some h_2
  · refine pk_b1 pk_top (fun _ _ => ?_)
    refine pk_ite ?_ ?_
    · exact (K_X12_caller_59 h)
    · refine pk_b1 pk_top (fun _ _ => ?_)
      refine pk_ite ?_ ?_
      · exact (K_X12_caller_59 h)
      · refine pk_b1 pk_top (fun _ _ => ?_)
        refine pk_ite ?_ ?_
        · exact (K_X12_caller_59 h)
        · refine pk_ite ?_ ?_
          · exact (K_X12_caller_59 h)
          · extract_lets +onlyGivenNames v_3
            clear_value v_3
            refine pk_nn ?_
            extract_lets +onlyGivenNames s_4
            have h_5 : KV 88 4 v0 s_4 := KV_mu h (Or.inl (by decide))
            clear_value s_4
            refine pk_nn ?_
            extract_lets +onlyGivenNames s_6
            have h_7 : KV 88 4 v0 s_6 := KV_mu h_5 (Or.inl (by decide))
            clear_value s_6
            refine pk_nn ?_
            extract_lets +onlyGivenNames s_8
            have h_9 : KV 88 4 v0 s_8 := KV_mu h_7 (Or.inl (by decide))
            clear_value s_8
            extract_lets +onlyGivenNames s_10
            have h_11 : KV 88 4 v0 s_10 := KV_mu h_9 (Or.inl (by decide))
            clear_value s_10
            exact pk_some h_11
theorem K_X12_said_149 {v0 : Int32} {x1 : Int32} {x2 : Int32} {x4 : Int32} {y0 : Int32} {y1 : Int64} {s : mG} (h : KV 88 4 v0 s) : pk (F_X12_said_149 x1 x2 x4 y0 y1 s) (se (fun τ => KV 88 4 v0 τ.2.2.2.2) (fun τ => KV 88 4 v0 τ.2)) := by
  unfold F_X12_said_149
  extract_lets +onlyGivenNames v_1
  clear_value v_1
  exact pk_some h
theorem K_X12_said_108 {v0 : Int32} {x1 : Int32} {x3 : Int32} {x4 : Int32} {x5 : Int32} {x6 : Int32} {x7 : Int64} {y0 : Int32} {y1 : Int32} {s : mG} (h : KV 88 4 v0 s) : pk (F_X12_said_108 x1 x3 x4 x5 x6 x7 y0 y1 s) (se (fun τ => KV 88 4 v0 τ.2.2.2.2) (fun τ => KV 88 4 v0 τ.2)) := by
  unfold F_X12_said_108
  refine pk_ite ?_ ?_
  · refine pk_nn ?_
    exact (K_X12_said_149 h)
  · refine pk_nn ?_
    exact (K_X12_said_149 h)
theorem K_X12_said_79 {v0 : Int32} {x1 : Int32} {x2 : Int32} {x3 : Int32} {x4 : Int32} {x5 : Int32} {y0 : Int32} {s : mG} (h : KV 88 4 v0 s) : pk (F_X12_said_79 x1 x2 x3 x4 x5 y0 s) (se (fun τ => KV 88 4 v0 τ.2.2.2.2) (fun τ => KV 88 4 v0 τ.2)) := by
  unfold F_X12_said_79
  refine pk_nn ?_
  refine pk_b2 (K_X12_sureOf h) (fun _ s_1 (h_2 : KV 88 4 v0 s_1) => ?_)
  refine pk_ite ?_ ?_
  · exact (K_X12_said_108 h_2)
  · exact (K_X12_said_108 h_2)
theorem K_X12_said_B18 {v0 : Int32} {x1 : Int32} {x2 : Int32} {x3 : Int32} {x4 : Int32} {s : mG} (h : KV 88 4 v0 s) : pk (F_X12_said_B18 x1 x2 x3 x4 s) (se (fun τ => KV 88 4 v0 τ.2.2.2.2) (fun τ => KV 88 4 v0 τ.2)) := by
  unfold F_X12_said_B18
  refine pk_ite ?_ ?_
  · refine pk_ite ?_ ?_
    · exact pk_some h
    · exact pk_some h
  · extract_lets +onlyGivenNames v_1
    clear_value v_1
    refine pk_nn ?_
    refine pk_nn ?_
    refine pk_nn ?_
    refine pk_b2 (K_X12_say h) (fun _ s_2 (h_3 : KV 88 4 v0 s_2) => ?_)
    refine pk_ite ?_ ?_
    · exact (K_X12_said_79 h_3)
    · exact (K_X12_said_79 h_3)
theorem K_X12_said_L18 {v0 : Int32} {x1 : Int32} {x2 : Int32} {x3 : Int32} {x4 : Int32} {s : mG} (h : KV 88 4 v0 s) : pk (F_X12_said_L18 x1 x2 x3 x4 s) (fun τ => KV 88 4 v0 τ.2) := by
  unfold F_X12_said_L18
  refine pk_whl (fun v => KV 88 4 v0 v.2.2.2.2) h (fun v hv => ?_)
  obtain ⟨y0, y1, y2, y3, y4⟩ := v
  exact K_X12_said_B18 hv
theorem K_X12_said {v0 : Int32} {a1 : Int32} {s : mG} (h : KV 88 4 v0 s) : pk (F_X12_said a1 s) (fun τ => KV 88 4 v0 τ.2) := by
  unfold F_X12_said
  refine pk_b1 pk_top (fun _ _ => ?_)
  refine pk_ite ?_ ?_
  · exact pk_some h
  · exact (K_X12_said_L18 h)
theorem K_X12_pair_20 {v0 : Int32} {s : mG} (h : KV 88 4 v0 s) : pk (F_X12_pair_20 s) (fun τ => KV 88 4 v0 τ.2) := by
  unfold F_X12_pair_20
  exact pk_some h
theorem K_X12_pair_105 {v0 : Int32} {x1 : Int32} {x2 : Int64} {x4 : Int32} {x5 : Int32} {x6 : Int32} {x7 : Int32} {s : mG} (h : KV 88 4 v0 s) : pk (F_X12_pair_105 x1 x2 x4 x5 x6 x7 s) (se (fun τ => KV 88 4 v0 τ.2.2.2.2.2.2) (se (fun τ => KV 88 4 v0 τ.2.2.2.2.2) (fun τ => KV 88 4 v0 τ.2))) := by
  unfold F_X12_pair_105
  exact pk_some h
theorem K_X12_pair_B53 {v0 : Int32} {x1 : Int32} {x2 : Int64} {x4 : Int32} {x5 : Int32} {x6 : Int32} {x7 : Int32} {s : mG} (h : KV 88 4 v0 s) : pk (F_X12_pair_B53 x1 x2 x4 x5 x6 x7 s) (se (fun τ => KV 88 4 v0 τ.2.2.2.2.2.2) (se (fun τ => KV 88 4 v0 τ.2.2.2.2.2) (fun τ => KV 88 4 v0 τ.2))) := by
  unfold F_X12_pair_B53
  refine pk_ite ?_ ?_
  · exact pk_some h
  · refine pk_b2 (K_X12_sureOf h) (fun _ s_1 (h_2 : KV 88 4 v0 s_1) => ?_)
    refine pk_b2 (K_X12_sureOf h_2) (fun _ s_3 (h_4 : KV 88 4 v0 s_3) => ?_)
    extract_lets +onlyGivenNames v_5
    clear_value v_5
    refine pk_ite ?_ ?_
    · exact (K_X12_pair_105 h_4)
    · exact (K_X12_pair_105 h_4)
theorem K_X12_pair_L53 {v0 : Int32} {x1 : Int32} {x2 : Int64} {x4 : Int32} {x5 : Int32} {x6 : Int32} {x7 : Int32} {s : mG} (h : KV 88 4 v0 s) : pk (F_X12_pair_L53 x1 x2 x4 x5 x6 x7 s) (se (fun τ => KV 88 4 v0 τ.2.2.2.2.2) (fun τ => KV 88 4 v0 τ.2)) := by
  unfold F_X12_pair_L53
  refine pk_whl (fun v => KV 88 4 v0 v.2.2.2.2.2.2) h (fun v hv => ?_)
  obtain ⟨y0, y1, y2, y3, y4, y5, y6⟩ := v
  exact K_X12_pair_B53 hv
theorem K_X12_pair_B35 {v0 : Int32} {x1 : Int32} {x2 : Int64} {x4 : Int32} {x5 : Int32} {x6 : Int32} {s : mG} (h : KV 88 4 v0 s) : pk (F_X12_pair_B35 x1 x2 x4 x5 x6 s) (se (fun τ => KV 88 4 v0 τ.2.2.2.2.2) (fun τ => KV 88 4 v0 τ.2)) := by
  unfold F_X12_pair_B35
  refine pk_ite ?_ ?_
  · refine pk_ite ?_ ?_
    · exact pk_some h
    · refine pk_ite ?_ ?_
      · exact pk_some h
      · exact pk_some h
  · exact (K_X12_pair_L53 h)
theorem K_X12_pair_L35 {v0 : Int32} {x1 : Int32} {x2 : Int64} {x4 : Int32} {x5 : Int32} {x6 : Int32} {s : mG} (h : KV 88 4 v0 s) : pk (F_X12_pair_L35 x1 x2 x4 x5 x6 s) (fun τ => KV 88 4 v0 τ.2) := by
  unfold F_X12_pair_L35
  refine pk_whl (fun v => KV 88 4 v0 v.2.2.2.2.2) h (fun v hv => ?_)
  obtain ⟨y0, y1, y2, y3, y4, y5⟩ := v
  exact K_X12_pair_B35 hv
theorem K_X12_pair {v0 : Int32} {a1 : Int32} {s : mG} (h : KV 88 4 v0 s) : pk (F_X12_pair a1 s) (fun τ => KV 88 4 v0 τ.2) := by
  unfold F_X12_pair
  refine pk_b1 pk_top (fun _ _ => ?_)
  refine pk_ite ?_ ?_
  · exact (K_X12_pair_20 h)
  · refine pk_ite ?_ ?_
    · exact (K_X12_pair_L35 h)
    · exact (K_X12_pair_20 h)
theorem K_X12_laysChances_116 {v0 : Int32} {x1 : Int32} {x2 : Int64} {x4 : Int32} {y1 : Int32} {y2 : Int64} {y3 : Int64} {s : mG} (h : KV 88 4 v0 s) : pk (F_X12_laysChances_116 x1 x2 x4 y1 y2 y3 s) (se (fun τ => KV 88 4 v0 τ.2.2.2) (se (fun τ => KV 88 4 v0 τ.2) (fun τ => KV 88 4 v0 τ))) := by
  unfold F_X12_laysChances_116
  refine pk_nn ?_
  extract_lets +onlyGivenNames s_1
  have h_2 : KV 88 4 v0 s_1 := h
  clear_value s_1
  exact pk_some h_2
theorem K_X12_laysChances_B64 {v0 : Int32} {x1 : Int32} {x2 : Int64} {x4 : Int32} {s : mG} (h : KV 88 4 v0 s) : pk (F_X12_laysChances_B64 x1 x2 x4 s) (se (fun τ => KV 88 4 v0 τ.2.2.2) (se (fun τ => KV 88 4 v0 τ.2) (fun τ => KV 88 4 v0 τ))) := by
  unfold F_X12_laysChances_B64
  refine pk_ite ?_ ?_
  · exact pk_some h
  · refine pk_nn ?_
    refine pk_ite ?_ ?_
    · exact (K_X12_laysChances_116 h)
    · refine pk_nn ?_
      exact (K_X12_laysChances_116 h)
theorem K_X12_laysChances_L64 {v0 : Int32} {x1 : Int32} {x2 : Int64} {x4 : Int32} {s : mG} (h : KV 88 4 v0 s) : pk (F_X12_laysChances_L64 x1 x2 x4 s) (se (fun τ => KV 88 4 v0 τ.2) (fun τ => KV 88 4 v0 τ)) := by
  unfold F_X12_laysChances_L64
  refine pk_whl (fun v => KV 88 4 v0 v.2.2.2) h (fun v hv => ?_)
  obtain ⟨y0, y1, y2, y3⟩ := v
  exact K_X12_laysChances_B64 hv
theorem K_X12_laysChances_B38 {v0 : Int32} {x1 : Int32} {s : mG} (h : KV 88 4 v0 s) : pk (F_X12_laysChances_B38 x1 s) (se (fun τ => KV 88 4 v0 τ.2) (fun τ => KV 88 4 v0 τ)) := by
  unfold F_X12_laysChances_B38
  refine pk_ite ?_ ?_
  · exact pk_some h
  · refine pk_b2 (K_X12_sureOf h) (fun _ s_1 (h_2 : KV 88 4 v0 s_1) => ?_)
    exact (K_X12_laysChances_L64 h_2)
theorem K_X12_laysChances_L38 {v0 : Int32} {x1 : Int32} {s : mG} (h : KV 88 4 v0 s) : pk (F_X12_laysChances_L38 x1 s) (fun τ => KV 88 4 v0 τ) := by
  unfold F_X12_laysChances_L38
  refine pk_whl (fun v => KV 88 4 v0 v.2) h (fun v hv => ?_)
  obtain ⟨y0, y1⟩ := v
  exact K_X12_laysChances_B38 hv
theorem K_X12_laysChances_29 {v0 : Int32} {x1 : Int32} {y1 : Int32} {y2 : Int64} {s : mG} (h : KV 88 4 v0 s) : pk (F_X12_laysChances_29 x1 y1 y2 s) (se (fun τ => KV 88 4 v0 τ.2) (fun τ => KV 88 4 v0 τ)) := by
  unfold F_X12_laysChances_29
  refine pk_nn ?_
  extract_lets +onlyGivenNames s_1
  have h_2 : KV 88 4 v0 s_1 := h
  clear_value s_1
  exact pk_some h_2
theorem K_X12_laysChances_B2 {v0 : Int32} {x1 : Int32} {s : mG} (h : KV 88 4 v0 s) : pk (F_X12_laysChances_B2 x1 s) (se (fun τ => KV 88 4 v0 τ.2) (fun τ => KV 88 4 v0 τ)) := by
  unfold F_X12_laysChances_B2
  refine pk_ite ?_ ?_
  · refine pk_b1r ?_
    exact (K_X12_laysChances_L38 h)
  · refine pk_ite ?_ ?_
    · exact (K_X12_laysChances_29 h)
    · exact (K_X12_laysChances_29 h)
theorem K_X12_laysChances_L2 {v0 : Int32} {x1 : Int32} {s : mG} (h : KV 88 4 v0 s) : pk (F_X12_laysChances_L2 x1 s) (fun τ => KV 88 4 v0 τ) := by
  unfold F_X12_laysChances_L2
  refine pk_whl (fun v => KV 88 4 v0 v.2) h (fun v hv => ?_)
  obtain ⟨y0, y1⟩ := v
  exact K_X12_laysChances_B2 hv
theorem K_X12_laysChances {v0 : Int32} {s : mG} (h : KV 88 4 v0 s) : pk (F_X12_laysChances s) (fun τ => KV 88 4 v0 τ) := by
  unfold F_X12_laysChances
  exact (K_X12_laysChances_L2 h)
theorem K_X12_many_98 {v0 : Int32} {x1 : Int32} {x4 : Int32} {x5 : Int32} {s : mG} (h : KV 88 4 v0 s) : pk (F_X12_many_98 x1 x4 x5 s) (se (fun τ => KV 88 4 v0 τ.2.2.2) (fun τ => KV 88 4 v0 τ.2)) := by
  unfold F_X12_many_98
  exact pk_some h
theorem K_X12_many_B64 {v0 : Int32} {x1 : Int32} {x4 : Int32} {x5 : Int32} {s : mG} (h : KV 88 4 v0 s) : pk (F_X12_many_B64 x1 x4 x5 s) (se (fun τ => KV 88 4 v0 τ.2.2.2) (fun τ => KV 88 4 v0 τ.2)) := by
  unfold F_X12_many_B64
  refine pk_ite ?_ ?_
  · refine pk_ite ?_ ?_
    · exact pk_some h
    · refine pk_nn ?_
      extract_lets +onlyGivenNames v_1
      clear_value v_1
      exact pk_some h
  · refine pk_nn ?_
    refine pk_nn ?_
    refine pk_ite ?_ ?_
    · exact (K_X12_many_98 h)
    · exact (K_X12_many_98 h)
theorem K_X12_many_L64 {v0 : Int32} {x1 : Int32} {x4 : Int32} {x5 : Int32} {s : mG} (h : KV 88 4 v0 s) : pk (F_X12_many_L64 x1 x4 x5 s) (fun τ => KV 88 4 v0 τ.2) := by
  unfold F_X12_many_L64
  refine pk_whl (fun v => KV 88 4 v0 v.2.2.2) h (fun v hv => ?_)
  obtain ⟨y0, y1, y2, y3⟩ := v
  exact K_X12_many_B64 hv
theorem K_X12_many_B16 {v0 : Int32} {x1 : Int32} {x2 : Int64} {x4 : Int32} {s : mG} (h : KV 88 4 v0 s) : pk (F_X12_many_B16 x1 x2 x4 s) (se (fun τ => KV 88 4 v0 τ.2.2.2) (fun τ => KV 88 4 v0 τ.2)) := by
  unfold F_X12_many_B16
  refine pk_ite ?_ ?_
  · refine pk_ite ?_ ?_
    · extract_lets +onlyGivenNames v_1
      clear_value v_1
      exact pk_some h
    · refine pk_b1 (K_X12_laysChances h) (fun s_2 (h_3 : KV 88 4 v0 s_2) => ?_)
      refine pk_b1r ?_
      exact (K_X12_many_L64 h_3)
  · refine pk_b2 (K_X12_sureOf h) (fun _ s_4 (h_5 : KV 88 4 v0 s_4) => ?_)
    exact pk_some h_5
theorem K_X12_many_L16 {v0 : Int32} {x1 : Int32} {x2 : Int64} {x4 : Int32} {s : mG} (h : KV 88 4 v0 s) : pk (F_X12_many_L16 x1 x2 x4 s) (fun τ => KV 88 4 v0 τ.2) := by
  unfold F_X12_many_L16
  refine pk_whl (fun v => KV 88 4 v0 v.2.2.2) h (fun v hv => ?_)
  obtain ⟨y0, y1, y2, y3⟩ := v
  exact K_X12_many_B16 hv
theorem K_X12_many {v0 : Int32} {a1 : Int32} {s : mG} (h : KV 88 4 v0 s) : pk (F_X12_many a1 s) (fun τ => KV 88 4 v0 τ.2) := by
  unfold F_X12_many
  refine pk_b1 pk_top (fun _ _ => ?_)
  refine pk_ite ?_ ?_
  · exact pk_some h
  · exact (K_X12_many_L16 h)
theorem K_X12_tagCostOf_B6 {v0 : Int32} {x1 : Int32} {x2 : Int32} {x3 : Int32} {x4 : Int32} {x5 : Int32} {s : mG} (h : KV 88 4 v0 s) : pk (F_X12_tagCostOf_B6 x1 x2 x3 x4 x5 s) (se (fun τ => KV 88 4 v0 τ.2.2.2.2.2) (fun τ => KV 88 4 v0 τ.2)) := by
  unfold F_X12_tagCostOf_B6
  refine pk_ite ?_ ?_
  · extract_lets +onlyGivenNames v_1
    clear_value v_1
    exact pk_some h
  · refine pk_nn ?_
    refine pk_b2 (K_X12_saysIn h) (fun _ s_2 (h_3 : KV 88 4 v0 s_2) => ?_)
    exact pk_some h_3
theorem K_X12_tagCostOf_L6 {v0 : Int32} {x1 : Int32} {x2 : Int32} {x3 : Int32} {x4 : Int32} {x5 : Int32} {s : mG} (h : KV 88 4 v0 s) : pk (F_X12_tagCostOf_L6 x1 x2 x3 x4 x5 s) (fun τ => KV 88 4 v0 τ.2) := by
  unfold F_X12_tagCostOf_L6
  refine pk_whl (fun v => KV 88 4 v0 v.2.2.2.2.2) h (fun v hv => ?_)
  obtain ⟨y0, y1, y2, y3, y4, y5⟩ := v
  exact K_X12_tagCostOf_B6 hv
theorem K_X12_tagCostOf {v0 : Int32} {a1 : Int32} {a2 : Int32} {a3 : Int32} {s : mG} (h : KV 88 4 v0 s) : pk (F_X12_tagCostOf a1 a2 a3 s) (fun τ => KV 88 4 v0 τ.2) := by
  unfold F_X12_tagCostOf
  exact (K_X12_tagCostOf_L6 h)
theorem K_X12_tag_22 {v0 : Int32} {s : mG} (h : KV 88 4 v0 s) : pk (F_X12_tag_22 s) (fun τ => KV 88 4 v0 τ.2) := by
  unfold F_X12_tag_22
  exact pk_some h
theorem K_X12_tag_57 {v0 : Int32} {x1 : Int32} {x2 : Int32} {x3 : Int32} {x4 : Int32} {s : mG} (h : KV 88 4 v0 s) : pk (F_X12_tag_57 x1 x2 x3 x4 s) (se (fun τ => KV 88 4 v0 τ.2.2.2.2) (fun τ => KV 88 4 v0 τ.2)) := by
  unfold F_X12_tag_57
  exact pk_some h
theorem K_X12_tag_B29 {v0 : Int32} {x1 : Int32} {x2 : Int32} {x3 : Int32} {x4 : Int32} {s : mG} (h : KV 88 4 v0 s) : pk (F_X12_tag_B29 x1 x2 x3 x4 s) (se (fun τ => KV 88 4 v0 τ.2.2.2.2) (fun τ => KV 88 4 v0 τ.2)) := by
  unfold F_X12_tag_B29
  refine pk_ite ?_ ?_
  · exact pk_some h
  · refine pk_b2 (K_X12_tagCostOf h) (fun _ s_1 (h_2 : KV 88 4 v0 s_1) => ?_)
    refine pk_b2 (K_X12_tagCostOf h_2) (fun _ s_3 (h_4 : KV 88 4 v0 s_3) => ?_)
    refine pk_ite ?_ ?_
    · exact (K_X12_tag_57 h_4)
    · exact (K_X12_tag_57 h_4)
theorem K_X12_tag_L29 {v0 : Int32} {x1 : Int32} {x2 : Int32} {x3 : Int32} {x4 : Int32} {s : mG} (h : KV 88 4 v0 s) : pk (F_X12_tag_L29 x1 x2 x3 x4 s) (fun τ => KV 88 4 v0 τ.2) := by
  unfold F_X12_tag_L29
  refine pk_whl (fun v => KV 88 4 v0 v.2.2.2.2) h (fun v hv => ?_)
  obtain ⟨y0, y1, y2, y3, y4⟩ := v
  exact K_X12_tag_B29 hv
theorem K_X12_tag {v0 : Int32} {a1 : Int32} {a2 : Int32} {s : mG} (h : KV 88 4 v0 s) : pk (F_X12_tag a1 a2 s) (fun τ => KV 88 4 v0 τ.2) := by
  unfold F_X12_tag
  refine pk_b1 pk_top (fun _ _ => ?_)
  refine pk_ite ?_ ?_
  · exact (K_X12_tag_22 h)
  · refine pk_b1 pk_top (fun _ _ => ?_)
    refine pk_ite ?_ ?_
    · exact (K_X12_tag_22 h)
    · exact (K_X12_tag_L29 h)
theorem K_X12_tagCost_42 {v0 : Int32} {s : mG} (h : KV 88 4 v0 s) : pk (F_X12_tagCost_42 s) (fun τ => KV 88 4 v0 τ.2) := by
  unfold F_X12_tagCost_42
  exact pk_some h
theorem K_X12_tagCost {v0 : Int32} {a1 : Int32} {a2 : Int32} {a3 : Int32} {s : mG} (h : KV 88 4 v0 s) : pk (F_X12_tagCost a1 a2 a3 s) (fun τ => KV 88 4 v0 τ.2) := by
  unfold F_X12_tagCost
  refine pk_b1 pk_top (fun _ _ => ?_)
  refine pk_ite ?_ ?_
  · exact (K_X12_tagCost_42 h)
  · refine pk_b1 pk_top (fun _ _ => ?_)
    refine pk_ite ?_ ?_
    · exact (K_X12_tagCost_42 h)
    · refine pk_b1 pk_top (fun _ _ => ?_)
      refine pk_ite ?_ ?_
      · exact (K_X12_tagCost_42 h)
      · refine pk_b2 (K_X12_tagCostOf h) (fun _ s_1 (h_2 : KV 88 4 v0 s_1) => ?_)
        exact pk_some h_2
theorem K_X12_span_20 {v0 : Int32} {s : mG} (h : KV 88 4 v0 s) : pk (F_X12_span_20 s) (fun τ => KV 88 4 v0 τ.2) := by
  unfold F_X12_span_20
  exact pk_some h
theorem K_X12_span_103 {v0 : Int32} {x4 : Int32} {s : mG} (h : KV 88 4 v0 s) : pk (F_X12_span_103 x4 s) (fun τ => KV 88 4 v0 τ.2) := by
  unfold F_X12_span_103
  exact pk_some h
theorem K_X12_span_87 {v0 : Int32} {x1 : Int32} {x2 : Int32} {x3 : Int32} {x4 : Int32} {x5 : Int32} {s : mG} (h : KV 88 4 v0 s) : pk (F_X12_span_87 x1 x2 x3 x4 x5 s) (se (fun τ => KV 88 4 v0 τ.2.2.2.2.2) (fun τ => KV 88 4 v0 τ.2)) := by
  unfold F_X12_span_87
  exact pk_some h
theorem K_X12_span_80 {v0 : Int32} {x1 : Int32} {x2 : Int32} {x5 : Int32} {x6 : Int32} {s : mG} (h : KV 88 4 v0 s) : pk (F_X12_span_80 x1 x2 x5 x6 s) (se (fun τ => KV 88 4 v0 τ.2.2.2.2.2) (fun τ => KV 88 4 v0 τ.2)) := by
  unfold F_X12_span_80
  exact (K_X12_span_87 h)
theorem K_X12_span_B34 {v0 : Int32} {x1 : Int32} {x2 : Int32} {x3 : Int32} {x4 : Int32} {x5 : Int32} {s : mG} (h : KV 88 4 v0 s) : pk (F_X12_span_B34 x1 x2 x3 x4 x5 s) (se (fun τ => KV 88 4 v0 τ.2.2.2.2.2) (fun τ => KV 88 4 v0 τ.2)) := by
  unfold F_X12_span_B34
  refine pk_ite ?_ ?_
  · refine pk_ite ?_ ?_
    · refine pk_b1r ?_
      exact (K_X12_span_103 h)
    · refine pk_ite ?_ ?_
      · refine pk_b1r ?_
        exact (K_X12_span_103 h)
      · exact pk_some h
  · refine pk_b1 pk_top (fun _ _ => ?_)
    refine pk_ite ?_ ?_
    · exact (K_X12_span_87 h)
    · refine pk_ite ?_ ?_
      · exact (K_X12_span_80 h)
      · refine pk_ite ?_ ?_
        · exact (K_X12_span_80 h)
        · exact (K_X12_span_87 h)
theorem K_X12_span_L34 {v0 : Int32} {x1 : Int32} {x2 : Int32} {x3 : Int32} {x4 : Int32} {x5 : Int32} {s : mG} (h : KV 88 4 v0 s) : pk (F_X12_span_L34 x1 x2 x3 x4 x5 s) (fun τ => KV 88 4 v0 τ.2) := by
  unfold F_X12_span_L34
  refine pk_whl (fun v => KV 88 4 v0 v.2.2.2.2.2) h (fun v hv => ?_)
  obtain ⟨y0, y1, y2, y3, y4, y5⟩ := v
  exact K_X12_span_B34 hv
theorem K_X12_span {v0 : Int32} {a1 : Int32} {a2 : Int32} {s : mG} (h : KV 88 4 v0 s) : pk (F_X12_span a1 a2 s) (fun τ => KV 88 4 v0 τ.2) := by
  unfold F_X12_span
  refine pk_b1 pk_top (fun _ _ => ?_)
  refine pk_ite ?_ ?_
  · exact (K_X12_span_20 h)
  · refine pk_b1 pk_top (fun _ _ => ?_)
    refine pk_ite ?_ ?_
    · exact (K_X12_span_20 h)
    · refine pk_b1 (K_X12_laysChances h) (fun s_1 (h_2 : KV 88 4 v0 s_1) => ?_)
      exact (K_X12_span_L34 h_2)
theorem K_X12_laysOthers_115 {v0 : Int32} {x1 : Int32} {x2 : Int32} {s : mG} (h : KV 88 4 v0 s) : pk (F_X12_laysOthers_115 x1 x2 s) (se (fun τ => KV 88 4 v0 τ.2.2) (fun τ => KV 88 4 v0 τ)) := by
  unfold F_X12_laysOthers_115
  exact pk_some h
theorem K_X12_laysOthers_B63 {v0 : Int32} {x1 : Int32} {x2 : Int32} {x3 : Int64} {x5 : Int32} {s : mG} (h : KV 88 4 v0 s) : pk (F_X12_laysOthers_B63 x1 x2 x3 x5 s) (se (fun τ => KV 88 4 v0 τ.2.2.2.2) (se (fun τ => KV 88 4 v0 τ.2.2) (fun τ => KV 88 4 v0 τ))) := by
  unfold F_X12_laysOthers_B63
  refine pk_ite ?_ ?_
  · refine pk_b1r ?_
    exact (K_X12_laysOthers_115 h)
  · refine pk_nn ?_
    refine pk_nn ?_
    refine pk_nn ?_
    extract_lets +onlyGivenNames s_1
    have h_2 : KV 88 4 v0 s_1 := h
    clear_value s_1
    exact pk_some h_2
theorem K_X12_laysOthers_L63 {v0 : Int32} {x1 : Int32} {x2 : Int32} {x3 : Int64} {x5 : Int32} {s : mG} (h : KV 88 4 v0 s) : pk (F_X12_laysOthers_L63 x1 x2 x3 x5 s) (se (fun τ => KV 88 4 v0 τ.2.2) (fun τ => KV 88 4 v0 τ)) := by
  unfold F_X12_laysOthers_L63
  refine pk_whl (fun v => KV 88 4 v0 v.2.2.2.2) h (fun v hv => ?_)
  obtain ⟨y0, y1, y2, y3, y4⟩ := v
  exact K_X12_laysOthers_B63 hv
theorem K_X12_laysOthers_B34 {v0 : Int32} {x1 : Int32} {x2 : Int32} {s : mG} (h : KV 88 4 v0 s) : pk (F_X12_laysOthers_B34 x1 x2 s) (se (fun τ => KV 88 4 v0 τ.2.2) (fun τ => KV 88 4 v0 τ)) := by
  unfold F_X12_laysOthers_B34
  refine pk_ite ?_ ?_
  · exact pk_some h
  · refine pk_ite ?_ ?_
    · exact (K_X12_laysOthers_115 h)
    · refine pk_b2 (K_X12_sureOf h) (fun _ s_1 (h_2 : KV 88 4 v0 s_1) => ?_)
      exact (K_X12_laysOthers_L63 h_2)
theorem K_X12_laysOthers_L34 {v0 : Int32} {x1 : Int32} {x2 : Int32} {s : mG} (h : KV 88 4 v0 s) : pk (F_X12_laysOthers_L34 x1 x2 s) (fun τ => KV 88 4 v0 τ) := by
  unfold F_X12_laysOthers_L34
  refine pk_whl (fun v => KV 88 4 v0 v.2.2) h (fun v hv => ?_)
  obtain ⟨y0, y1, y2⟩ := v
  exact K_X12_laysOthers_B34 hv
theorem K_X12_laysOthers_25 {v0 : Int32} {x1 : Int32} {x2 : Int32} {y1 : Int32} {y2 : Int64} {s : mG} (h : KV 88 4 v0 s) : pk (F_X12_laysOthers_25 x1 x2 y1 y2 s) (se (fun τ => KV 88 4 v0 τ.2.2) (fun τ => KV 88 4 v0 τ)) := by
  unfold F_X12_laysOthers_25
  refine pk_nn ?_
  extract_lets +onlyGivenNames s_1
  have h_2 : KV 88 4 v0 s_1 := h
  clear_value s_1
  exact pk_some h_2
theorem K_X12_laysOthers_B2 {v0 : Int32} {x1 : Int32} {x2 : Int32} {s : mG} (h : KV 88 4 v0 s) : pk (F_X12_laysOthers_B2 x1 x2 s) (se (fun τ => KV 88 4 v0 τ.2.2) (fun τ => KV 88 4 v0 τ)) := by
  unfold F_X12_laysOthers_B2
  refine pk_ite ?_ ?_
  · refine pk_b1r ?_
    exact (K_X12_laysOthers_L34 h)
  · refine pk_ite ?_ ?_
    · exact (K_X12_laysOthers_25 h)
    · exact (K_X12_laysOthers_25 h)
theorem K_X12_laysOthers_L2 {v0 : Int32} {x1 : Int32} {x2 : Int32} {s : mG} (h : KV 88 4 v0 s) : pk (F_X12_laysOthers_L2 x1 x2 s) (fun τ => KV 88 4 v0 τ) := by
  unfold F_X12_laysOthers_L2
  refine pk_whl (fun v => KV 88 4 v0 v.2.2) h (fun v hv => ?_)
  obtain ⟨y0, y1, y2⟩ := v
  exact K_X12_laysOthers_B2 hv
theorem K_X12_laysOthers {v0 : Int32} {a1 : Int32} {s : mG} (h : KV 88 4 v0 s) : pk (F_X12_laysOthers a1 s) (fun τ => KV 88 4 v0 τ) := by
  unfold F_X12_laysOthers
  exact (K_X12_laysOthers_L2 h)
theorem K_X12_counted_18 {v0 : Int32} {s : mG} (h : KV 88 4 v0 s) : pk (F_X12_counted_18 s) (fun τ => KV 88 4 v0 τ.2) := by
  unfold F_X12_counted_18
  exact pk_some h
theorem K_X12_counted {v0 : Int32} {a1 : Int32} {a2 : Int32} {s : mG} (h : KV 88 4 v0 s) : pk (F_X12_counted a1 a2 s) (fun τ => KV 88 4 v0 τ.2) := by
  unfold F_X12_counted
  refine pk_b1 pk_top (fun _ _ => ?_)
  refine pk_ite ?_ ?_
  · exact (K_X12_counted_18 h)
  · refine pk_b1 pk_top (fun _ _ => ?_)
    refine pk_ite ?_ ?_
    · exact (K_X12_counted_18 h)
    · refine pk_b1 (K_X12_laysOthers h) (fun s_1 (h_2 : KV 88 4 v0 s_1) => ?_)
      refine pk_b2 (K_X12_sureOf h_2) (fun _ s_3 (h_4 : KV 88 4 v0 s_3) => ?_)
      refine pk_nn ?_
      extract_lets +onlyGivenNames v_5
      clear_value v_5
      refine pk_nn ?_
      extract_lets +onlyGivenNames v_6
      clear_value v_6
      refine pk_ite ?_ ?_
      · exact pk_some h_4
      · refine pk_nn ?_
        extract_lets +onlyGivenNames v_7
        clear_value v_7
        exact pk_some h_4
theorem K_X12_visit_17 {v0 : Int32} {s : mG} (h : KV 88 4 v0 s) : pk (F_X12_visit_17 s) (fun τ => KV 88 4 v0 τ.2) := by
  unfold F_X12_visit_17
  exact pk_some h
theorem K_X12_visit_154 {v0 : Int32} {x1 : Int32} {x2 : Int32} {x3 : Int64} {x5 : Int32} {x6 : Int64} {x8 : Int32} {s : mG} (h : KV 88 4 v0 s) : pk (F_X12_visit_154 x1 x2 x3 x5 x6 x8 s) (se (fun τ => KV 88 4 v0 τ.2.2.2.2.2.2) (fun τ => KV 88 4 v0 τ.2)) := by
  unfold F_X12_visit_154
  exact pk_some h
theorem K_X12_visit_B34 {v0 : Int32} {x1 : Int32} {x2 : Int32} {x3 : Int64} {x5 : Int32} {x6 : Int64} {x8 : Int32} {s : mG} (h : KV 88 4 v0 s) : pk (F_X12_visit_B34 x1 x2 x3 x5 x6 x8 s) (se (fun τ => KV 88 4 v0 τ.2.2.2.2.2.2) (fun τ => KV 88 4 v0 τ.2)) := by
  unfold F_X12_visit_B34
  refine pk_ite ?_ ?_
  · refine pk_ite ?_ ?_
    · exact pk_some h
    · exact pk_some h
  · refine pk_nn ?_
    refine pk_b2 (K_X12_saysIn h) (fun _ s_1 (h_2 : KV 88 4 v0 s_1) => ?_)
    refine pk_nn ?_
    refine pk_b2 (K_X12_saysIn h_2) (fun _ s_3 (h_4 : KV 88 4 v0 s_3) => ?_)
    extract_lets +onlyGivenNames v_5
    clear_value v_5
    refine pk_ite ?_ ?_
    · exact (K_X12_visit_154 h_4)
    · exact (K_X12_visit_154 h_4)
theorem K_X12_visit_L34 {v0 : Int32} {x1 : Int32} {x2 : Int32} {x3 : Int64} {x5 : Int32} {x6 : Int64} {x8 : Int32} {s : mG} (h : KV 88 4 v0 s) : pk (F_X12_visit_L34 x1 x2 x3 x5 x6 x8 s) (fun τ => KV 88 4 v0 τ.2) := by
  unfold F_X12_visit_L34
  refine pk_whl (fun v => KV 88 4 v0 v.2.2.2.2.2.2) h (fun v hv => ?_)
  obtain ⟨y0, y1, y2, y3, y4, y5, y6⟩ := v
  exact K_X12_visit_B34 hv
theorem K_X12_visit {v0 : Int32} {a1 : Int32} {a2 : Int32} {s : mG} (h : KV 88 4 v0 s) : pk (F_X12_visit a1 a2 s) (fun τ => KV 88 4 v0 τ.2) := by
  unfold F_X12_visit
  refine pk_b1 pk_top (fun _ _ => ?_)
  refine pk_ite ?_ ?_
  · exact (K_X12_visit_17 h)
  · refine pk_b1 pk_top (fun _ _ => ?_)
    refine pk_ite ?_ ?_
    · exact (K_X12_visit_17 h)
    · refine pk_b2 (K_X12_sureOf h) (fun _ s_1 (h_2 : KV 88 4 v0 s_1) => ?_)
      exact (K_X12_visit_L34 h_2)
theorem K_X12_movesIn_36 {v0 : Int32} {x1 : Int32} {x3 : Int32} {y0 : Int32} {y2 : Int32} {s : mG} (h : KV 88 4 v0 s) : pk (F_X12_movesIn_36 x1 x3 y0 y2 s) (se (fun τ => KV 88 4 v0 τ.2.2.2) (fun τ => KV 88 4 v0 τ.2)) := by
  unfold F_X12_movesIn_36
  refine pk_nn ?_
  refine pk_b2 (K_X12_saysIn h) (fun _ s_1 (h_2 : KV 88 4 v0 s_1) => ?_)
  exact pk_some h_2
theorem K_X12_movesIn_B4 {v0 : Int32} {x1 : Int32} {x2 : Int32} {x3 : Int32} {s : mG} (h : KV 88 4 v0 s) : pk (F_X12_movesIn_B4 x1 x2 x3 s) (se (fun τ => KV 88 4 v0 τ.2.2.2) (fun τ => KV 88 4 v0 τ.2)) := by
  unfold F_X12_movesIn_B4
  refine pk_ite ?_ ?_
  · exact pk_some h
  · refine pk_nn ?_
    refine pk_ite ?_ ?_
    · exact (K_X12_movesIn_36 h)
    · exact (K_X12_movesIn_36 h)
theorem K_X12_movesIn_L4 {v0 : Int32} {x1 : Int32} {x2 : Int32} {x3 : Int32} {s : mG} (h : KV 88 4 v0 s) : pk (F_X12_movesIn_L4 x1 x2 x3 s) (fun τ => KV 88 4 v0 τ.2) := by
  unfold F_X12_movesIn_L4
  refine pk_whl (fun v => KV 88 4 v0 v.2.2.2) h (fun v hv => ?_)
  obtain ⟨y0, y1, y2, y3⟩ := v
  exact K_X12_movesIn_B4 hv
theorem K_X12_movesIn {v0 : Int32} {a1 : Int32} {s : mG} (h : KV 88 4 v0 s) : pk (F_X12_movesIn a1 s) (fun τ => KV 88 4 v0 τ.2) := by
  unfold F_X12_movesIn
  exact (K_X12_movesIn_L4 h)
theorem K_X12_expect {v0 : Int32} {s : mG} (h : KV 88 4 v0 s) : pk (F_X12_expect s) (fun τ => KV 88 4 v0 τ.2) := by
  unfold F_X12_expect
  refine pk_b2 (K_X12_movesIn h) (fun _ s_1 (h_2 : KV 88 4 v0 s_1) => ?_)
  exact pk_some h_2
theorem K_X12_busy_57 {v0 : Int32} {x1 : Int32} {x2 : Int32} {x3 : Int32} {x4 : Int32} {s : mG} (h : KV 88 4 v0 s) : pk (F_X12_busy_57 x1 x2 x3 x4 s) (se (fun τ => KV 88 4 v0 τ.2.2.2.2) (fun τ => KV 88 4 v0 τ.2)) := by
  unfold F_X12_busy_57
  exact pk_some h
theorem K_X12_busy_B29 {v0 : Int32} {x1 : Int32} {x2 : Int32} {x3 : Int32} {x4 : Int32} {s : mG} (h : KV 88 4 v0 s) : pk (F_X12_busy_B29 x1 x2 x3 x4 s) (se (fun τ => KV 88 4 v0 τ.2.2.2.2) (fun τ => KV 88 4 v0 τ.2)) := by
  unfold F_X12_busy_B29
  refine pk_ite ?_ ?_
  · refine pk_ite ?_ ?_
    · exact pk_some h
    · refine pk_b2 (K_X12_movesIn h) (fun _ s_1 (h_2 : KV 88 4 v0 s_1) => ?_)
      exact pk_some h_2
  · refine pk_b2 (K_X12_movesIn h) (fun _ s_3 (h_4 : KV 88 4 v0 s_3) => ?_)
    refine pk_b2 (K_X12_movesIn h_4) (fun _ s_5 (h_6 : KV 88 4 v0 s_5) => ?_)
    refine pk_ite ?_ ?_
    · exact (K_X12_busy_57 h_6)
    · exact (K_X12_busy_57 h_6)
theorem K_X12_busy_L29 {v0 : Int32} {x1 : Int32} {x2 : Int32} {x3 : Int32} {x4 : Int32} {s : mG} (h : KV 88 4 v0 s) : pk (F_X12_busy_L29 x1 x2 x3 x4 s) (fun τ => KV 88 4 v0 τ.2) := by
  unfold F_X12_busy_L29
  refine pk_whl (fun v => KV 88 4 v0 v.2.2.2.2) h (fun v hv => ?_)
  obtain ⟨y0, y1, y2, y3, y4⟩ := v
  exact K_X12_busy_B29 hv
theorem K_X12_busy {v0 : Int32} {a1 : Int32} {s : mG} (h : KV 88 4 v0 s) : pk (F_X12_busy a1 s) (fun τ => KV 88 4 v0 τ.2) := by
  unfold F_X12_busy
  refine pk_b1 pk_top (fun _ _ => ?_)
  refine pk_ite ?_ ?_
  · exact pk_some h
  · extract_lets +onlyGivenNames v_1
    clear_value v_1
    exact (K_X12_busy_L29 h)
theorem K_X12_lack_80 {v0 : Int32} {x1 : Int32} {x2 : Int32} {x3 : Int32} {x4 : Int64} {x6 : Int32} {s : mG} (h : KV 88 4 v0 s) : pk (F_X12_lack_80 x1 x2 x3 x4 x6 s) (se (fun τ => KV 88 4 v0 τ.2.2.2.2.2) (fun τ => KV 88 4 v0 τ.2)) := by
  unfold F_X12_lack_80
  exact pk_some h
theorem K_X12_lack_B21 {v0 : Int32} {x1 : Int32} {x2 : Int32} {x3 : Int32} {x4 : Int64} {x6 : Int32} {s : mG} (h : KV 88 4 v0 s) : pk (F_X12_lack_B21 x1 x2 x3 x4 x6 s) (se (fun τ => KV 88 4 v0 τ.2.2.2.2.2) (fun τ => KV 88 4 v0 τ.2)) := by
  unfold F_X12_lack_B21
  refine pk_ite ?_ ?_
  · refine pk_ite ?_ ?_
    · exact pk_some h
    · refine pk_ite ?_ ?_
      · extract_lets +onlyGivenNames v_1
        clear_value v_1
        exact pk_some h
      · exact pk_some h
  · refine pk_nn ?_
    refine pk_ite ?_ ?_
    · refine pk_nn ?_
      extract_lets +onlyGivenNames v_2
      clear_value v_2
      refine pk_b2 (K_X12_sureOf h) (fun _ s_3 (h_4 : KV 88 4 v0 s_3) => ?_)
      extract_lets +onlyGivenNames v_5
      clear_value v_5
      exact (K_X12_lack_80 h_4)
    · exact (K_X12_lack_80 h)
theorem K_X12_lack_L21 {v0 : Int32} {x1 : Int32} {x2 : Int32} {x3 : Int32} {x4 : Int64} {x6 : Int32} {s : mG} (h : KV 88 4 v0 s) : pk (F_X12_lack_L21 x1 x2 x3 x4 x6 s) (fun τ => KV 88 4 v0 τ.2) := by
  unfold F_X12_lack_L21
  refine pk_whl (fun v => KV 88 4 v0 v.2.2.2.2.2) h (fun v hv => ?_)
  obtain ⟨y0, y1, y2, y3, y4, y5⟩ := v
  exact K_X12_lack_B21 hv
theorem K_X12_lack {v0 : Int32} {a1 : Int32} {s : mG} (h : KV 88 4 v0 s) : pk (F_X12_lack a1 s) (fun τ => KV 88 4 v0 τ.2) := by
  unfold F_X12_lack
  refine pk_b1 pk_top (fun _ _ => ?_)
  refine pk_ite ?_ ?_
  · exact pk_some h
  · exact (K_X12_lack_L21 h)
theorem K_X12_empty_64 {v0 : Int32} {x1 : Int32} {x4 : Int32} {y0 : Int64} {s : mG} (h : KV 88 4 v0 s) : pk (F_X12_empty_64 x1 x4 y0 s) (se (fun τ => KV 88 4 v0 τ.2.2.2) (fun τ => KV 88 4 v0 τ.2)) := by
  unfold F_X12_empty_64
  exact pk_some h
theorem K_X12_empty_B18 {v0 : Int32} {x1 : Int32} {x2 : Int64} {x4 : Int32} {s : mG} (h : KV 88 4 v0 s) : pk (F_X12_empty_B18 x1 x2 x4 s) (se (fun τ => KV 88 4 v0 τ.2.2.2) (fun τ => KV 88 4 v0 τ.2)) := by
  unfold F_X12_empty_B18
  refine pk_ite ?_ ?_
  · exact pk_some h
  · refine pk_nn ?_
    refine pk_ite ?_ ?_
    · refine pk_b2 (K_X12_sureOf h) (fun _ s_1 (h_2 : KV 88 4 v0 s_1) => ?_)
      exact (K_X12_empty_64 h_2)
    · exact (K_X12_empty_64 h)
theorem K_X12_empty_L18 {v0 : Int32} {x1 : Int32} {x2 : Int64} {x4 : Int32} {s : mG} (h : KV 88 4 v0 s) : pk (F_X12_empty_L18 x1 x2 x4 s) (fun τ => KV 88 4 v0 τ.2) := by
  unfold F_X12_empty_L18
  refine pk_whl (fun v => KV 88 4 v0 v.2.2.2) h (fun v hv => ?_)
  obtain ⟨y0, y1, y2, y3⟩ := v
  exact K_X12_empty_B18 hv
theorem K_X12_empty {v0 : Int32} {a1 : Int32} {s : mG} (h : KV 88 4 v0 s) : pk (F_X12_empty a1 s) (fun τ => KV 88 4 v0 τ.2) := by
  unfold F_X12_empty
  refine pk_b1 pk_top (fun _ _ => ?_)
  refine pk_ite ?_ ?_
  · exact pk_some h
  · exact (K_X12_empty_L18 h)
theorem K_X12_isKnockedAhead_42 {v0 : Int32} {s : mG} (h : KV 88 4 v0 s) : pk (F_X12_isKnockedAhead_42 s) (fun τ => KV 88 4 v0 τ.2) := by
  unfold F_X12_isKnockedAhead_42
  exact pk_some h
theorem K_X12_isKnockedAhead_46 {v0 : Int32} {s : mG} (h : KV 88 4 v0 s) : pk (F_X12_isKnockedAhead_46 s) (fun τ => KV 88 4 v0 τ.2) := by
  unfold F_X12_isKnockedAhead_46
  exact pk_some h
theorem K_X12_isKnockedAhead {v0 : Int32} {a1 : Int32} {a2 : Int32} {s : mG} (h : KV 88 4 v0 s) : pk (F_X12_isKnockedAhead a1 a2 s) (fun τ => KV 88 4 v0 τ.2) := by
  unfold F_X12_isKnockedAhead
  refine pk_b1 pk_top (fun _ _ => ?_)
  refine pk_b2 (K_X12_sureOf h) (fun _ s_1 (h_2 : KV 88 4 v0 s_1) => ?_)
  refine pk_b1 pk_top (fun _ _ => ?_)
  refine pk_b2 (K_X12_sureOf h_2) (fun _ s_3 (h_4 : KV 88 4 v0 s_3) => ?_)
  refine pk_ite ?_ ?_
  · exact (K_X12_isKnockedAhead_42 h_4)
  · refine pk_ite ?_ ?_
    · refine pk_ite ?_ ?_
      · exact (K_X12_isKnockedAhead_46 h_4)
      · exact (K_X12_isKnockedAhead_42 h_4)
    · exact (K_X12_isKnockedAhead_46 h_4)
theorem K_X12_knocks_52 {v0 : Int32} {x1 : Int32} {x2 : Int32} {x4 : Int32} {y0 : Int32} {y1 : Int32} {s : mG} (h : KV 88 4 v0 s) : pk (F_X12_knocks_52 x1 x2 x4 y0 y1 s) (se (fun τ => KV 88 4 v0 τ.2.2.2.2) (se (fun τ => KV 88 4 v0 τ.2.2) (fun τ => KV 88 4 v0 τ.2))) := by
  unfold F_X12_knocks_52
  exact pk_some h
theorem K_X12_knocks_51 {v0 : Int32} {x1 : Int32} {x2 : Int32} {x4 : Int32} {y0 : Int32} {s : mG} (h : KV 88 4 v0 s) : pk (F_X12_knocks_51 x1 x2 x4 y0 s) (se (fun τ => KV 88 4 v0 τ.2.2.2.2) (se (fun τ => KV 88 4 v0 τ.2.2) (fun τ => KV 88 4 v0 τ.2))) := by
  unfold F_X12_knocks_51
  exact (K_X12_knocks_52 h)
theorem K_X12_knocks_B18 {v0 : Int32} {x1 : Int32} {x2 : Int32} {x3 : Int32} {x4 : Int32} {s : mG} (h : KV 88 4 v0 s) : pk (F_X12_knocks_B18 x1 x2 x3 x4 s) (se (fun τ => KV 88 4 v0 τ.2.2.2.2) (se (fun τ => KV 88 4 v0 τ.2.2) (fun τ => KV 88 4 v0 τ.2))) := by
  unfold F_X12_knocks_B18
  refine pk_ite ?_ ?_
  · refine pk_ite ?_ ?_
    · exact pk_some h
    · exact pk_some h
  · refine pk_ite ?_ ?_
    · exact (K_X12_knocks_51 h)
    · refine pk_b2 (K_X12_isKnockedAhead h) (fun _ s_1 (h_2 : KV 88 4 v0 s_1) => ?_)
      refine pk_ite ?_ ?_
      · exact (K_X12_knocks_51 h_2)
      · exact (K_X12_knocks_52 h_2)
theorem K_X12_knocks_L18 {v0 : Int32} {x1 : Int32} {x2 : Int32} {x3 : Int32} {x4 : Int32} {s : mG} (h : KV 88 4 v0 s) : pk (F_X12_knocks_L18 x1 x2 x3 x4 s) (se (fun τ => KV 88 4 v0 τ.2.2) (fun τ => KV 88 4 v0 τ.2)) := by
  unfold F_X12_knocks_L18
  refine pk_whl (fun v => KV 88 4 v0 v.2.2.2.2) h (fun v hv => ?_)
  obtain ⟨y0, y1, y2, y3, y4⟩ := v
  exact K_X12_knocks_B18 hv
theorem K_X12_knocks_B2 {v0 : Int32} {x1 : Int32} {x2 : Int32} {s : mG} (h : KV 88 4 v0 s) : pk (F_X12_knocks_B2 x1 x2 s) (se (fun τ => KV 88 4 v0 τ.2.2) (fun τ => KV 88 4 v0 τ.2)) := by
  unfold F_X12_knocks_B2
  refine pk_ite ?_ ?_
  · exact pk_some h
  · exact (K_X12_knocks_L18 h)
theorem K_X12_knocks_L2 {v0 : Int32} {x1 : Int32} {x2 : Int32} {s : mG} (h : KV 88 4 v0 s) : pk (F_X12_knocks_L2 x1 x2 s) (fun τ => KV 88 4 v0 τ.2) := by
  unfold F_X12_knocks_L2
  refine pk_whl (fun v => KV 88 4 v0 v.2.2) h (fun v hv => ?_)
  obtain ⟨y0, y1, y2⟩ := v
  exact K_X12_knocks_B2 hv
theorem K_X12_knocks {v0 : Int32} {a1 : Int32} {s : mG} (h : KV 88 4 v0 s) : pk (F_X12_knocks a1 s) (fun τ => KV 88 4 v0 τ.2) := by
  unfold F_X12_knocks
  exact (K_X12_knocks_L2 h)
theorem K_X12_room_67 {v0 : Int32} {s : mG} (h : KV 88 4 v0 s) : pk (F_X12_room_67 s) (fun τ => KV 88 4 v0 τ.2) := by
  unfold F_X12_room_67
  exact pk_some h
theorem K_X12_room {v0 : Int32} {a1 : Int32} {a2 : Int32} {a3 : Int32} {a4 : Int32} {s : mG} (h : KV 88 4 v0 s) : pk (F_X12_room a1 a2 a3 a4 s) (fun τ => KV 88 4 v0 τ.2) := by
  unfold F_X12_room
  refine pk_ite ?_ ?_
  · extract_lets +onlyGivenNames s_1
    have h_2 : KV 88 4 v0 s_1 := KV_mu h (Or.inl (by decide))
    clear_value s_1
    exact pk_some h_2
  · refine pk_b1 pk_top (fun _ _ => ?_)
    refine pk_ite ?_ ?_
    · exact (K_X12_room_67 h)
    · refine pk_b1 pk_top (fun _ _ => ?_)
      refine pk_ite ?_ ?_
      · exact (K_X12_room_67 h)
      · refine pk_b1 pk_top (fun _ _ => ?_)
        refine pk_ite ?_ ?_
        · exact (K_X12_room_67 h)
        · refine pk_b1 pk_top (fun _ _ => ?_)
          refine pk_ite ?_ ?_
          · exact (K_X12_room_67 h)
          · refine pk_ite ?_ ?_
            · exact (K_X12_room_67 h)
            · extract_lets +onlyGivenNames v_3
              clear_value v_3
              refine pk_nn ?_
              extract_lets +onlyGivenNames s_4
              have h_5 : KV 88 4 v0 s_4 := KV_mu h (Or.inl (by decide))
              clear_value s_4
              refine pk_nn ?_
              extract_lets +onlyGivenNames s_6
              have h_7 : KV 88 4 v0 s_6 := KV_mu h_5 (Or.inl (by decide))
              clear_value s_6
              refine pk_nn ?_
              extract_lets +onlyGivenNames s_8
              have h_9 : KV 88 4 v0 s_8 := KV_mu h_7 (Or.inl (by decide))
              clear_value s_8
              refine pk_nn ?_
              extract_lets +onlyGivenNames s_10
              have h_11 : KV 88 4 v0 s_10 := KV_mu h_9 (Or.inl (by decide))
              clear_value s_10
              extract_lets +onlyGivenNames s_12
              have h_13 : KV 88 4 v0 s_12 := KV_mu h_11 (Or.inl (by decide))
              clear_value s_12
              exact pk_some h_13
theorem K_X12_laysFloors_B22 {v0 : Int32} {x1 : Int32} {s : mG} (h : KV 88 4 v0 s) : pk (F_X12_laysFloors_B22 x1 s) (se (fun τ => KV 88 4 v0 τ.2) (fun τ => KV 88 4 v0 τ)) := by
  unfold F_X12_laysFloors_B22
  refine pk_ite ?_ ?_
  · exact pk_some h
  · refine pk_nn ?_
    extract_lets +onlyGivenNames v_1
    clear_value v_1
    refine pk_nn ?_
    refine pk_b2 (K_X12_sureOf h) (fun _ s_2 (h_3 : KV 88 4 v0 s_2) => ?_)
    refine pk_nn ?_
    extract_lets +onlyGivenNames s_4
    have h_5 : KV 88 4 v0 s_4 := h_3
    clear_value s_4
    exact pk_some h_5
theorem K_X12_laysFloors_L22 {v0 : Int32} {x1 : Int32} {s : mG} (h : KV 88 4 v0 s) : pk (F_X12_laysFloors_L22 x1 s) (fun τ => KV 88 4 v0 τ) := by
  unfold F_X12_laysFloors_L22
  refine pk_whl (fun v => KV 88 4 v0 v.2) h (fun v hv => ?_)
  obtain ⟨y0, y1⟩ := v
  exact K_X12_laysFloors_B22 hv
theorem K_X12_laysFloors_B2 {v0 : Int32} {x1 : Int32} {s : mG} (h : KV 88 4 v0 s) : pk (F_X12_laysFloors_B2 x1 s) (se (fun τ => KV 88 4 v0 τ.2) (fun τ => KV 88 4 v0 τ)) := by
  unfold F_X12_laysFloors_B2
  refine pk_ite ?_ ?_
  · refine pk_b1r ?_
    exact (K_X12_laysFloors_L22 h)
  · refine pk_nn ?_
    extract_lets +onlyGivenNames s_1
    have h_2 : KV 88 4 v0 s_1 := h
    clear_value s_1
    exact pk_some h_2
theorem K_X12_laysFloors_L2 {v0 : Int32} {x1 : Int32} {s : mG} (h : KV 88 4 v0 s) : pk (F_X12_laysFloors_L2 x1 s) (fun τ => KV 88 4 v0 τ) := by
  unfold F_X12_laysFloors_L2
  refine pk_whl (fun v => KV 88 4 v0 v.2) h (fun v hv => ?_)
  obtain ⟨y0, y1⟩ := v
  exact K_X12_laysFloors_B2 hv
theorem K_X12_laysFloors {v0 : Int32} {s : mG} (h : KV 88 4 v0 s) : pk (F_X12_laysFloors s) (fun τ => KV 88 4 v0 τ) := by
  unfold F_X12_laysFloors
  exact (K_X12_laysFloors_L2 h)
theorem K_X12_searches_169 {v0 : Int32} {rec : Int32 → Int32 → Int32 → Int64 → mG → Option (mG)} {x1 : Int32} {x2 : Int32} {x3 : Int32} {x4 : Int64} {x6 : Int32} {s : mG} (hrec : ∀ (b0 : Int32) (b1 : Int32) (b2 : Int32) (b3 : Int64) (r : mG), KV 88 4 v0 r → pk (rec b0 b1 b2 b3 r) (fun τ => KV 88 4 v0 τ)) (h : KV 88 4 v0 s) : pk (F_X12_searches_169 rec x1 x2 x3 x4 x6 s) (se (fun τ => KV 88 4 v0 τ.2.2.2.2.2) (fun τ => KV 88 4 v0 τ)) := by
  unfold F_X12_searches_169
  exact pk_some h
theorem K_X12_searches_120 {v0 : Int32} {rec : Int32 → Int32 → Int32 → Int64 → mG → Option (mG)} {x1 : Int32} {x2 : Int32} {x3 : Int32} {x4 : Int64} {x6 : Int32} {x7 : Int32} {y0 : Int32} {y1 : Int32} {y2 : Int32} {s : mG} (hrec : ∀ (b0 : Int32) (b1 : Int32) (b2 : Int32) (b3 : Int64) (r : mG), KV 88 4 v0 r → pk (rec b0 b1 b2 b3 r) (fun τ => KV 88 4 v0 τ)) (h : KV 88 4 v0 s) : pk (F_X12_searches_120 rec x1 x2 x3 x4 x6 x7 y0 y1 y2 s) (se (fun τ => KV 88 4 v0 τ.2.2.2.2.2) (fun τ => KV 88 4 v0 τ)) := by
  unfold F_X12_searches_120
  refine pk_ite ?_ ?_
  · refine pk_ite ?_ ?_
    · refine pk_nn ?_
      extract_lets +onlyGivenNames s_1
      have h_2 : KV 88 4 v0 s_1 := KV_mu h (Or.inl (by decide))
      clear_value s_1
      refine pk_nn ?_
      refine pk_b1 (hrec _ _ _ _ _ h_2) (fun s_3 (h_4 : KV 88 4 v0 s_3) => ?_)
      exact (K_X12_searches_169 hrec h_4)
    · exact (K_X12_searches_169 hrec h)
  · exact (K_X12_searches_169 hrec h)
theorem K_X12_searches_93 {v0 : Int32} {rec : Int32 → Int32 → Int32 → Int64 → mG → Option (mG)} {x1 : Int32} {x2 : Int32} {x3 : Int32} {x4 : Int64} {x6 : Int32} {x8 : Int32} {y0 : Int32} {s : mG} (hrec : ∀ (b0 : Int32) (b1 : Int32) (b2 : Int32) (b3 : Int64) (r : mG), KV 88 4 v0 r → pk (rec b0 b1 b2 b3 r) (fun τ => KV 88 4 v0 τ)) (h : KV 88 4 v0 s) : pk (F_X12_searches_93 rec x1 x2 x3 x4 x6 x8 y0 s) (se (fun τ => KV 88 4 v0 τ.2.2.2.2.2.2.2) (se (fun τ => KV 88 4 v0 τ.2.2.2.2.2) (fun τ => KV 88 4 v0 τ))) := by
  unfold F_X12_searches_93
  exact pk_some h
theorem K_X12_searches_88 {v0 : Int32} {rec : Int32 → Int32 → Int32 → Int64 → mG → Option (mG)} {x1 : Int32} {x2 : Int32} {x3 : Int32} {x4 : Int64} {x6 : Int32} {x8 : Int32} {s : mG} (hrec : ∀ (b0 : Int32) (b1 : Int32) (b2 : Int32) (b3 : Int64) (r : mG), KV 88 4 v0 r → pk (rec b0 b1 b2 b3 r) (fun τ => KV 88 4 v0 τ)) (h : KV 88 4 v0 s) : pk (F_X12_searches_88 rec x1 x2 x3 x4 x6 x8 s) (se (fun τ => KV 88 4 v0 τ.2.2.2.2.2.2.2) (se (fun τ => KV 88 4 v0 τ.2.2.2.2.2) (fun τ => KV 88 4 v0 τ))) := by
  unfold F_X12_searches_88
  exact (K_X12_searches_93 hrec h)
theorem K_X12_searches_B65 {v0 : Int32} {rec : Int32 → Int32 → Int32 → Int64 → mG → Option (mG)} {x1 : Int32} {x2 : Int32} {x3 : Int32} {x4 : Int64} {x6 : Int32} {x7 : Int32} {x8 : Int32} {s : mG} (hrec : ∀ (b0 : Int32) (b1 : Int32) (b2 : Int32) (b3 : Int64) (r : mG), KV 88 4 v0 r → pk (rec b0 b1 b2 b3 r) (fun τ => KV 88 4 v0 τ)) (h : KV 88 4 v0 s) : pk (F_X12_searches_B65 rec x1 x2 x3 x4 x6 x7 x8 s) (se (fun τ => KV 88 4 v0 τ.2.2.2.2.2.2.2) (se (fun τ => KV 88 4 v0 τ.2.2.2.2.2) (fun τ => KV 88 4 v0 τ))) := by
  unfold F_X12_searches_B65
  refine pk_ite ?_ ?_
  · refine pk_ite ?_ ?_
    · refine pk_b1r ?_
      exact (K_X12_searches_120 hrec h)
    · refine pk_b1r ?_
      exact (K_X12_searches_120 hrec h)
  · refine pk_ite ?_ ?_
    · refine pk_nn ?_
      refine pk_ite ?_ ?_
      · exact (K_X12_searches_88 hrec h)
      · exact (K_X12_searches_93 hrec h)
    · exact (K_X12_searches_88 hrec h)
theorem K_X12_searches_L65 {v0 : Int32} {rec : Int32 → Int32 → Int32 → Int64 → mG → Option (mG)} {x1 : Int32} {x2 : Int32} {x3 : Int32} {x4 : Int64} {x6 : Int32} {x7 : Int32} {x8 : Int32} {s : mG} (hrec : ∀ (b0 : Int32) (b1 : Int32) (b2 : Int32) (b3 : Int64) (r : mG), KV 88 4 v0 r → pk (rec b0 b1 b2 b3 r) (fun τ => KV 88 4 v0 τ)) (h : KV 88 4 v0 s) : pk (F_X12_searches_L65 rec x1 x2 x3 x4 x6 x7 x8 s) (se (fun τ => KV 88 4 v0 τ.2.2.2.2.2) (fun τ => KV 88 4 v0 τ)) := by
  unfold F_X12_searches_L65
  refine pk_whl (fun v => KV 88 4 v0 v.2.2.2.2.2.2.2) h (fun v hv => ?_)
  obtain ⟨y0, y1, y2, y3, y4, y5, y6, y7⟩ := v
  exact K_X12_searches_B65 hrec hv
theorem K_X12_searches_B53 {v0 : Int32} {rec : Int32 → Int32 → Int32 → Int64 → mG → Option (mG)} {x1 : Int32} {x2 : Int32} {x3 : Int32} {x4 : Int64} {x6 : Int32} {s : mG} (hrec : ∀ (b0 : Int32) (b1 : Int32) (b2 : Int32) (b3 : Int64) (r : mG), KV 88 4 v0 r → pk (rec b0 b1 b2 b3 r) (fun τ => KV 88 4 v0 τ)) (h : KV 88 4 v0 s) : pk (F_X12_searches_B53 rec x1 x2 x3 x4 x6 s) (se (fun τ => KV 88 4 v0 τ.2.2.2.2.2) (fun τ => KV 88 4 v0 τ)) := by
  unfold F_X12_searches_B53
  refine pk_ite ?_ ?_
  · exact pk_some h
  · exact (K_X12_searches_L65 hrec h)
theorem K_X12_searches_L53 {v0 : Int32} {rec : Int32 → Int32 → Int32 → Int64 → mG → Option (mG)} {x1 : Int32} {x2 : Int32} {x3 : Int32} {x4 : Int64} {x6 : Int32} {s : mG} (hrec : ∀ (b0 : Int32) (b1 : Int32) (b2 : Int32) (b3 : Int64) (r : mG), KV 88 4 v0 r → pk (rec b0 b1 b2 b3 r) (fun τ => KV 88 4 v0 τ)) (h : KV 88 4 v0 s) : pk (F_X12_searches_L53 rec x1 x2 x3 x4 x6 s) (fun τ => KV 88 4 v0 τ) := by
  unfold F_X12_searches_L53
  refine pk_whl (fun v => KV 88 4 v0 v.2.2.2.2.2) h (fun v hv => ?_)
  obtain ⟨y0, y1, y2, y3, y4, y5⟩ := v
  exact K_X12_searches_B53 hrec hv
theorem K_X12_searches_50 {v0 : Int32} {rec : Int32 → Int32 → Int32 → Int64 → mG → Option (mG)} {x1 : Int32} {x2 : Int32} {x3 : Int32} {x4 : Int64} {s : mG} (hrec : ∀ (b0 : Int32) (b1 : Int32) (b2 : Int32) (b3 : Int64) (r : mG), KV 88 4 v0 r → pk (rec b0 b1 b2 b3 r) (fun τ => KV 88 4 v0 τ)) (h : KV 88 4 v0 s) : pk (F_X12_searches_50 rec x1 x2 x3 x4 s) (fun τ => KV 88 4 v0 τ) := by
  unfold F_X12_searches_50
  exact (K_X12_searches_L53 hrec h)
theorem K_X12_searches_B24 {v0 : Int32} {rec : Int32 → Int32 → Int32 → Int64 → mG → Option (mG)} {x1 : Int32} {x2 : Int32} {x3 : Int32} {x4 : Int64} {x6 : Int32} {s : mG} (hrec : ∀ (b0 : Int32) (b1 : Int32) (b2 : Int32) (b3 : Int64) (r : mG), KV 88 4 v0 r → pk (rec b0 b1 b2 b3 r) (fun τ => KV 88 4 v0 τ)) (h : KV 88 4 v0 s) : pk (F_X12_searches_B24 rec x1 x2 x3 x4 x6 s) (se (fun τ => KV 88 4 v0 τ.2.2.2.2.2) (fun τ => KV 88 4 v0 τ)) := by
  unfold F_X12_searches_B24
  refine pk_ite ?_ ?_
  · refine pk_b1r ?_
    exact (K_X12_searches_50 hrec h)
  · refine pk_nn ?_
    refine pk_nn ?_
    extract_lets +onlyGivenNames s_1
    have h_2 : KV 88 4 v0 s_1 := KV_mu h (Or.inl (by decide))
    clear_value s_1
    exact pk_some h_2
theorem K_X12_searches_L24 {v0 : Int32} {rec : Int32 → Int32 → Int32 → Int64 → mG → Option (mG)} {x1 : Int32} {x2 : Int32} {x3 : Int32} {x4 : Int64} {x6 : Int32} {s : mG} (hrec : ∀ (b0 : Int32) (b1 : Int32) (b2 : Int32) (b3 : Int64) (r : mG), KV 88 4 v0 r → pk (rec b0 b1 b2 b3 r) (fun τ => KV 88 4 v0 τ)) (h : KV 88 4 v0 s) : pk (F_X12_searches_L24 rec x1 x2 x3 x4 x6 s) (fun τ => KV 88 4 v0 τ) := by
  unfold F_X12_searches_L24
  refine pk_whl (fun v => KV 88 4 v0 v.2.2.2.2.2) h (fun v hv => ?_)
  obtain ⟨y0, y1, y2, y3, y4, y5⟩ := v
  exact K_X12_searches_B24 hrec hv
theorem K_X12_searches {v0 : Int32} {rec : Int32 → Int32 → Int32 → Int64 → mG → Option (mG)} {a1 : Int32} {a2 : Int32} {a3 : Int32} {a4 : Int64} {s : mG} (hrec : ∀ (b0 : Int32) (b1 : Int32) (b2 : Int32) (b3 : Int64) (r : mG), KV 88 4 v0 r → pk (rec b0 b1 b2 b3 r) (fun τ => KV 88 4 v0 τ)) (h : KV 88 4 v0 s) : pk (F_X12_searches rec a1 a2 a3 a4 s) (fun τ => KV 88 4 v0 τ) := by
  unfold F_X12_searches
  refine pk_ite ?_ ?_
  · exact (K_X12_searches_50 hrec h)
  · extract_lets +onlyGivenNames s_1
    have h_2 : KV 88 4 v0 s_1 := h
    clear_value s_1
    extract_lets +onlyGivenNames s_3
    have h_4 : KV 88 4 v0 s_3 := KV_mu h_2 (Or.inr (by decide))
    clear_value s_3
    exact (K_X12_searches_L24 hrec h_4)
theorem K_Q_X12_searches {v0 : Int32} : ∀ (n : Nat) (a0 : Int32) (a1 : Int32) (a2 : Int32) (a3 : Int64) (s : mG), KV 88 4 v0 s → pk (Q_X12_searches n a0 a1 a2 a3 s) (fun τ => KV 88 4 v0 τ)
  | 0, _, _, _, _, _, _ => pk_none
  | n + 1, _, _, _, _, _, h => K_X12_searches (fun a0 a1 a2 a3 s h => K_Q_X12_searches n a0 a1 a2 a3 s h) h
theorem K_R_X12_searches {v0 : Int32} {a0 : Int32} {a1 : Int32} {a2 : Int32} {a3 : Int64} {s : mG} (h : KV 88 4 v0 s) : pk (R_X12_searches a0 a1 a2 a3 s) (fun τ => KV 88 4 v0 τ) := K_Q_X12_searches 5 a0 a1 a2 a3 s h
theorem K_X12_fire_30 {v0 : Int32} {s : mG} (h : KV 88 4 v0 s) : pk (F_X12_fire_30 s) (fun τ => KV 88 4 v0 τ.2) := by
  unfold F_X12_fire_30
  exact pk_some h
theorem K_X12_fire_32 {v0 : Int32} {x1 : Int32} {x2 : Int32} {s : mG} (h : KV 88 4 v0 s) : pk (F_X12_fire_32 x1 x2 s) (fun τ => KV 88 4 v0 τ.2) := by
  unfold F_X12_fire_32
  refine pk_b1 (K_X12_laysFloors h) (fun s_1 (h_2 : KV 88 4 v0 s_1) => ?_)
  extract_lets +onlyGivenNames s_3
  have h_4 : KV 88 4 v0 s_3 := h_2
  clear_value s_3
  refine pk_b1 (K_X12_searches (fun _ _ _ _ _ h => K_R_X12_searches h) h_4) (fun s_5 (h_6 : KV 88 4 v0 s_5) => ?_)
  refine pk_ite ?_ ?_
  · extract_lets +onlyGivenNames v_7
    clear_value v_7
    exact pk_some h_6
  · refine pk_ite ?_ ?_
    · exact pk_some h_6
    · refine pk_ite ?_ ?_
      · exact pk_some h_6
      · refine pk_nn ?_
        extract_lets +onlyGivenNames v_8
        clear_value v_8
        exact pk_some h_6
end
end
/-! 59.w4.keep -/
section
noncomputable section
theorem K_X12_fire {v0 : Int32} {a1 : Int32} {a2 : Int32} {s : mG} (h : KV 88 4 v0 s) : pk (F_X12_fire a1 a2 s) (fun τ => KV 88 4 v0 τ.2) := by
  unfold F_X12_fire
  refine pk_b1 pk_top (fun _ _ => ?_)
  refine pk_ite ?_ ?_
  · exact (K_X12_fire_30 h)
  · refine pk_b1 pk_top (fun _ _ => ?_)
    refine pk_ite ?_ ?_
    · refine pk_b1 pk_top (fun _ _ => ?_)
      refine pk_ite ?_ ?_
      · exact (K_X12_fire_30 h)
      · exact (K_X12_fire_32 h)
    · exact (K_X12_fire_32 h)
theorem K_X12_laysDoors_161 {v0 : Int32} {x1 : Int32} {x2 : Int32} {x3 : Int32} {s : mG} (h : KV 88 4 v0 s) : pk (F_X12_laysDoors_161 x1 x2 x3 s) (se (fun τ => KV 88 4 v0 τ.2.2.2) (se (fun τ => KV 88 4 v0 τ.2) (fun τ => KV 88 4 v0 τ))) := by
  unfold F_X12_laysDoors_161
  exact pk_some h
theorem K_X12_laysDoors_B45 {v0 : Int32} {x1 : Int32} {x2 : Int32} {x3 : Int32} {s : mG} (h : KV 88 4 v0 s) : pk (F_X12_laysDoors_B45 x1 x2 x3 s) (se (fun τ => KV 88 4 v0 τ.2.2.2) (se (fun τ => KV 88 4 v0 τ.2) (fun τ => KV 88 4 v0 τ))) := by
  unfold F_X12_laysDoors_B45
  refine pk_ite ?_ ?_
  · exact pk_some h
  · refine pk_nn ?_
    refine pk_ite ?_ ?_
    · exact (K_X12_laysDoors_161 h)
    · refine pk_nn ?_
      refine pk_b2 (K_X12_saysIn h) (fun _ s_1 (h_2 : KV 88 4 v0 s_1) => ?_)
      refine pk_nn ?_
      refine pk_b2 (K_X12_saysIn h_2) (fun _ s_3 (h_4 : KV 88 4 v0 s_3) => ?_)
      extract_lets +onlyGivenNames v_5
      clear_value v_5
      refine pk_nn ?_
      refine pk_nn ?_
      extract_lets +onlyGivenNames s_6
      have h_7 : KV 88 4 v0 s_6 := KV_mu h_4 (Or.inl (by decide))
      clear_value s_6
      extract_lets +onlyGivenNames v_8
      clear_value v_8
      refine pk_nn ?_
      refine pk_nn ?_
      extract_lets +onlyGivenNames s_9
      have h_10 : KV 88 4 v0 s_9 := KV_mu h_7 (Or.inl (by decide))
      clear_value s_9
      exact (K_X12_laysDoors_161 h_10)
theorem K_X12_laysDoors_L45 {v0 : Int32} {x1 : Int32} {x2 : Int32} {x3 : Int32} {s : mG} (h : KV 88 4 v0 s) : pk (F_X12_laysDoors_L45 x1 x2 x3 s) (se (fun τ => KV 88 4 v0 τ.2) (fun τ => KV 88 4 v0 τ)) := by
  unfold F_X12_laysDoors_L45
  refine pk_whl (fun v => KV 88 4 v0 v.2.2.2) h (fun v hv => ?_)
  obtain ⟨y0, y1, y2, y3⟩ := v
  exact K_X12_laysDoors_B45 hv
theorem K_X12_laysDoors_B2 {v0 : Int32} {x1 : Int32} {s : mG} (h : KV 88 4 v0 s) : pk (F_X12_laysDoors_B2 x1 s) (se (fun τ => KV 88 4 v0 τ.2) (fun τ => KV 88 4 v0 τ)) := by
  unfold F_X12_laysDoors_B2
  refine pk_ite ?_ ?_
  · exact pk_some h
  · refine pk_nn ?_
    extract_lets +onlyGivenNames s_1
    have h_2 : KV 88 4 v0 s_1 := KV_mu h (Or.inl (by decide))
    clear_value s_1
    refine pk_nn ?_
    extract_lets +onlyGivenNames s_3
    have h_4 : KV 88 4 v0 s_3 := KV_mu h_2 (Or.inl (by decide))
    clear_value s_3
    extract_lets +onlyGivenNames v_5
    clear_value v_5
    exact (K_X12_laysDoors_L45 h_4)
theorem K_X12_laysDoors_L2 {v0 : Int32} {x1 : Int32} {s : mG} (h : KV 88 4 v0 s) : pk (F_X12_laysDoors_L2 x1 s) (fun τ => KV 88 4 v0 τ) := by
  unfold F_X12_laysDoors_L2
  refine pk_whl (fun v => KV 88 4 v0 v.2) h (fun v hv => ?_)
  obtain ⟨y0, y1⟩ := v
  exact K_X12_laysDoors_B2 hv
theorem K_X12_laysDoors {v0 : Int32} {s : mG} (h : KV 88 4 v0 s) : pk (F_X12_laysDoors s) (fun τ => KV 88 4 v0 τ) := by
  unfold F_X12_laysDoors
  exact (K_X12_laysDoors_L2 h)
theorem K_X12_stands_26 {v0 : Int32} {s : mG} (h : KV 88 4 v0 s) : pk (F_X12_stands_26 s) (fun τ => KV 88 4 v0 τ.2) := by
  unfold F_X12_stands_26
  exact pk_some h
theorem K_X12_stands_223 {v0 : Int32} {x1 : Int32} {x2 : Int32} {x3 : Int32} {x4 : Int32} {s : mG} (h : KV 88 4 v0 s) : pk (F_X12_stands_223 x1 x2 x3 x4 s) (se (fun τ => KV 88 4 v0 τ.2.2.2.2) (fun τ => KV 88 4 v0 τ.2)) := by
  unfold F_X12_stands_223
  exact pk_some h
theorem K_X12_stands_219 {v0 : Int32} {x1 : Int32} {x2 : Int32} {x3 : Int32} {x4 : Int32} {s : mG} (h : KV 88 4 v0 s) : pk (F_X12_stands_219 x1 x2 x3 x4 s) (se (fun τ => KV 88 4 v0 τ.2.2.2.2) (fun τ => KV 88 4 v0 τ.2)) := by
  unfold F_X12_stands_219
  exact (K_X12_stands_223 h)
theorem K_X12_stands_B161 {v0 : Int32} {x1 : Int32} {x2 : Int32} {x3 : Int32} {x4 : Int32} {s : mG} (h : KV 88 4 v0 s) : pk (F_X12_stands_B161 x1 x2 x3 x4 s) (se (fun τ => KV 88 4 v0 τ.2.2.2.2) (fun τ => KV 88 4 v0 τ.2)) := by
  unfold F_X12_stands_B161
  refine pk_ite ?_ ?_
  · exact pk_some h
  · refine pk_nn ?_
    extract_lets +onlyGivenNames v_1
    clear_value v_1
    refine pk_nn ?_
    extract_lets +onlyGivenNames v_2
    clear_value v_2
    refine pk_ite ?_ ?_
    · exact (K_X12_stands_219 h)
    · refine pk_ite ?_ ?_
      · refine pk_ite ?_ ?_
        · exact (K_X12_stands_219 h)
        · exact (K_X12_stands_223 h)
      · exact (K_X12_stands_223 h)
theorem K_X12_stands_L161 {v0 : Int32} {x1 : Int32} {x2 : Int32} {x3 : Int32} {x4 : Int32} {s : mG} (h : KV 88 4 v0 s) : pk (F_X12_stands_L161 x1 x2 x3 x4 s) (fun τ => KV 88 4 v0 τ.2) := by
  unfold F_X12_stands_L161
  refine pk_whl (fun v => KV 88 4 v0 v.2.2.2.2) h (fun v hv => ?_)
  obtain ⟨y0, y1, y2, y3, y4⟩ := v
  exact K_X12_stands_B161 hv
theorem K_X12_stands_157 {v0 : Int32} {x1 : Int32} {x2 : Int32} {y0 : Int32} {s : mG} (h : KV 88 4 v0 s) : pk (F_X12_stands_157 x1 x2 y0 s) (fun τ => KV 88 4 v0 τ.2) := by
  unfold F_X12_stands_157
  exact (K_X12_stands_L161 h)
theorem K_X12_stands_103 {v0 : Int32} {x1 : Int32} {x2 : Int32} {x3 : Int32} {x4 : Int32} {y1 : Int32} {y2 : Int32} {y3 : Int32} {s : mG} (h : KV 88 4 v0 s) : pk (F_X12_stands_103 x1 x2 x3 x4 y1 y2 y3 s) (se (fun τ => KV 88 4 v0 τ.2.2.2.2) (se (fun τ => KV 88 4 v0 τ.2.2.2) (fun τ => KV 88 4 v0 τ.2))) := by
  unfold F_X12_stands_103
  refine pk_nn ?_
  extract_lets +onlyGivenNames s_1
  have h_2 : KV 88 4 v0 s_1 := KV_mu h (Or.inl (by decide))
  clear_value s_1
  exact pk_some h_2
theorem K_X12_stands_B58 {v0 : Int32} {x1 : Int32} {x2 : Int32} {x3 : Int32} {x4 : Int32} {s : mG} (h : KV 88 4 v0 s) : pk (F_X12_stands_B58 x1 x2 x3 x4 s) (se (fun τ => KV 88 4 v0 τ.2.2.2.2) (se (fun τ => KV 88 4 v0 τ.2.2.2) (fun τ => KV 88 4 v0 τ.2))) := by
  unfold F_X12_stands_B58
  refine pk_ite ?_ ?_
  · exact pk_some h
  · refine pk_nn ?_
    refine pk_ite ?_ ?_
    · exact (K_X12_stands_103 h)
    · refine pk_b1 pk_top (fun _ _ => ?_)
      exact (K_X12_stands_103 h)
theorem K_X12_stands_L58 {v0 : Int32} {x1 : Int32} {x2 : Int32} {x3 : Int32} {x4 : Int32} {s : mG} (h : KV 88 4 v0 s) : pk (F_X12_stands_L58 x1 x2 x3 x4 s) (se (fun τ => KV 88 4 v0 τ.2.2.2) (fun τ => KV 88 4 v0 τ.2)) := by
  unfold F_X12_stands_L58
  refine pk_whl (fun v => KV 88 4 v0 v.2.2.2.2) h (fun v hv => ?_)
  obtain ⟨y0, y1, y2, y3, y4⟩ := v
  exact K_X12_stands_B58 hv
theorem K_X12_stands_B51 {v0 : Int32} {x1 : Int32} {x2 : Int32} {x3 : Int32} {s : mG} (h : KV 88 4 v0 s) : pk (F_X12_stands_B51 x1 x2 x3 s) (se (fun τ => KV 88 4 v0 τ.2.2.2) (fun τ => KV 88 4 v0 τ.2)) := by
  unfold F_X12_stands_B51
  refine pk_ite ?_ ?_
  · refine pk_ite ?_ ?_
    · refine pk_b1 pk_top (fun _ _ => ?_)
      exact pk_some h
    · refine pk_ite ?_ ?_
      · refine pk_b1r ?_
        exact (K_X12_stands_157 h)
      · refine pk_b1r ?_
        exact (K_X12_stands_157 h)
  · exact (K_X12_stands_L58 h)
theorem K_X12_stands_L51 {v0 : Int32} {x1 : Int32} {x2 : Int32} {x3 : Int32} {s : mG} (h : KV 88 4 v0 s) : pk (F_X12_stands_L51 x1 x2 x3 s) (fun τ => KV 88 4 v0 τ.2) := by
  unfold F_X12_stands_L51
  refine pk_whl (fun v => KV 88 4 v0 v.2.2.2) h (fun v hv => ?_)
  obtain ⟨y0, y1, y2, y3⟩ := v
  exact K_X12_stands_B51 hv
theorem K_X12_stands_28 {v0 : Int32} {x1 : Int32} {x2 : Int32} {s : mG} (h : KV 88 4 v0 s) : pk (F_X12_stands_28 x1 x2 s) (fun τ => KV 88 4 v0 τ.2) := by
  unfold F_X12_stands_28
  refine pk_b1 (K_X12_laysDoors h) (fun s_1 (h_2 : KV 88 4 v0 s_1) => ?_)
  extract_lets +onlyGivenNames s_3
  have h_4 : KV 88 4 v0 s_3 := KV_mu h_2 (Or.inl (by decide))
  clear_value s_3
  extract_lets +onlyGivenNames s_5
  have h_6 : KV 88 4 v0 s_5 := KV_mu h_4 (Or.inl (by decide))
  clear_value s_5
  exact (K_X12_stands_L51 h_6)
theorem K_X12_stands {v0 : Int32} {a1 : Int32} {a2 : Int32} {s : mG} (h : KV 88 4 v0 s) : pk (F_X12_stands a1 a2 s) (fun τ => KV 88 4 v0 τ.2) := by
  unfold F_X12_stands
  refine pk_b1 pk_top (fun _ _ => ?_)
  refine pk_ite ?_ ?_
  · exact (K_X12_stands_26 h)
  · refine pk_ite ?_ ?_
    · exact (K_X12_stands_28 h)
    · refine pk_b1 pk_top (fun _ _ => ?_)
      refine pk_ite ?_ ?_
      · exact (K_X12_stands_26 h)
      · exact (K_X12_stands_28 h)
theorem K_X12_carries_39 {v0 : Int32} {x1 : Int32} {x2 : Int32} {s : mG} (h : KV 88 4 v0 s) : pk (F_X12_carries_39 x1 x2 s) (se (fun τ => KV 88 4 v0 τ.2.2) (fun τ => KV 88 4 v0 τ.2)) := by
  unfold F_X12_carries_39
  exact pk_some h
theorem K_X12_carries_37 {v0 : Int32} {x2 : Int32} {s : mG} (h : KV 88 4 v0 s) : pk (F_X12_carries_37 x2 s) (se (fun τ => KV 88 4 v0 τ.2.2) (fun τ => KV 88 4 v0 τ.2)) := by
  unfold F_X12_carries_37
  exact (K_X12_carries_39 h)
theorem K_X12_carries_B4 {v0 : Int32} {x1 : Int32} {x2 : Int32} {s : mG} (h : KV 88 4 v0 s) : pk (F_X12_carries_B4 x1 x2 s) (se (fun τ => KV 88 4 v0 τ.2.2) (fun τ => KV 88 4 v0 τ.2)) := by
  unfold F_X12_carries_B4
  refine pk_ite ?_ ?_
  · exact pk_some h
  · refine pk_ite ?_ ?_
    · exact (K_X12_carries_37 h)
    · refine pk_b2 (K_X12_saysNow h) (fun _ s_1 (h_2 : KV 88 4 v0 s_1) => ?_)
      refine pk_b2 (K_X12_saysNow h_2) (fun _ s_3 (h_4 : KV 88 4 v0 s_3) => ?_)
      refine pk_ite ?_ ?_
      · exact (K_X12_carries_39 h_4)
      · exact (K_X12_carries_37 h_4)
theorem K_X12_carries_L4 {v0 : Int32} {x1 : Int32} {x2 : Int32} {s : mG} (h : KV 88 4 v0 s) : pk (F_X12_carries_L4 x1 x2 s) (fun τ => KV 88 4 v0 τ.2) := by
  unfold F_X12_carries_L4
  refine pk_whl (fun v => KV 88 4 v0 v.2.2) h (fun v hv => ?_)
  obtain ⟨y0, y1, y2⟩ := v
  exact K_X12_carries_B4 hv
theorem K_X12_carries {v0 : Int32} {s : mG} (h : KV 88 4 v0 s) : pk (F_X12_carries s) (fun τ => KV 88 4 v0 τ.2) := by
  unfold F_X12_carries
  exact (K_X12_carries_L4 h)
theorem K_X12_away_29 {v0 : Int32} {s : mG} (h : KV 88 4 v0 s) : pk (F_X12_away_29 s) (fun τ => KV 88 4 v0 τ.2) := by
  unfold F_X12_away_29
  exact pk_some h
theorem K_X12_away_B38 {v0 : Int32} {x1 : Int32} {x2 : Int32} {x3 : Int32} {x4 : Int32} {s : mG} (h : KV 88 4 v0 s) : pk (F_X12_away_B38 x1 x2 x3 x4 s) (se (fun τ => KV 88 4 v0 τ.2.2.2.2) (fun τ => KV 88 4 v0 τ.2)) := by
  unfold F_X12_away_B38
  refine pk_ite ?_ ?_
  · exact pk_some h
  · refine pk_nn ?_
    refine pk_b1 pk_top (fun _ _ => ?_)
    refine pk_b2 (K_X12_saysIn h) (fun _ s_1 (h_2 : KV 88 4 v0 s_1) => ?_)
    extract_lets +onlyGivenNames v_3
    clear_value v_3
    exact pk_some h_2
theorem K_X12_away_L38 {v0 : Int32} {x1 : Int32} {x2 : Int32} {x3 : Int32} {x4 : Int32} {s : mG} (h : KV 88 4 v0 s) : pk (F_X12_away_L38 x1 x2 x3 x4 s) (fun τ => KV 88 4 v0 τ.2) := by
  unfold F_X12_away_L38
  refine pk_whl (fun v => KV 88 4 v0 v.2.2.2.2) h (fun v hv => ?_)
  obtain ⟨y0, y1, y2, y3, y4⟩ := v
  exact K_X12_away_B38 hv
theorem K_X12_away {v0 : Int32} {a1 : Int32} {a2 : Int32} {s : mG} (h : KV 88 4 v0 s) : pk (F_X12_away a1 a2 s) (fun τ => KV 88 4 v0 τ.2) := by
  unfold F_X12_away
  refine pk_b1 pk_top (fun _ _ => ?_)
  refine pk_ite ?_ ?_
  · exact (K_X12_away_29 h)
  · refine pk_nn ?_
    refine pk_ite ?_ ?_
    · exact (K_X12_away_29 h)
    · refine pk_b1 pk_top (fun _ _ => ?_)
      refine pk_ite ?_ ?_
      · exact (K_X12_away_29 h)
      · exact (K_X12_away_L38 h)
theorem K_X12_of {v0 : Int32} {a1 : Int32} {a2 : Int32} {s : mG} (h : KV 88 4 v0 s) : pk (F_X12_of a1 a2 s) (fun τ => KV 88 4 v0 τ.2) := by
  unfold F_X12_of
  refine pk_b1 pk_top (fun _ _ => ?_)
  refine pk_ite ?_ ?_
  · exact pk_some h
  · refine pk_ite ?_ ?_
    · refine pk_nn ?_
      extract_lets +onlyGivenNames v_1
      clear_value v_1
      exact pk_some h
    · refine pk_ite ?_ ?_
      · refine pk_nn ?_
        extract_lets +onlyGivenNames v_2
        clear_value v_2
        exact pk_some h
      · refine pk_ite ?_ ?_
        · refine pk_nn ?_
          extract_lets +onlyGivenNames v_3
          clear_value v_3
          exact pk_some h
        · refine pk_ite ?_ ?_
          · refine pk_nn ?_
            extract_lets +onlyGivenNames v_4
            clear_value v_4
            exact pk_some h
          · refine pk_ite ?_ ?_
            · refine pk_nn ?_
              extract_lets +onlyGivenNames v_5
              clear_value v_5
              exact pk_some h
            · refine pk_ite ?_ ?_
              · refine pk_b2 (K_X12_sureOf h) (fun _ s_6 (h_7 : KV 88 4 v0 s_6) => ?_)
                exact pk_some h_7
              · refine pk_b1 pk_top (fun _ _ => ?_)
                refine pk_ite ?_ ?_
                · exact pk_some h
                · refine pk_b2 (K_X12_saysNow h) (fun _ s_8 (h_9 : KV 88 4 v0 s_8) => ?_)
                  exact pk_some h_9
theorem K_X12_image_53 {v0 : Int32} {x1 : Int32} {x2 : Int32} {s : mG} (h : KV 88 4 v0 s) : pk (F_X12_image_53 x1 x2 s) (se (fun τ => KV 88 4 v0 τ.2.2) (fun τ => KV 88 4 v0 τ.2)) := by
  unfold F_X12_image_53
  exact pk_some h
end
end
/-! 59.y.tab -/
section
noncomputable section
/-! TABLES BY VALUE: places as natural numbers -/
theorem cn_t {n : Nat} (h : n < 2147483648) : (cn n).toInt = n := t_cn h
theorem cn_nat {n : Nat} (h : n < 2147483648) : (cn n).toNatClampNeg = n := by rw [t_nat, t_cn h]; rfl
theorem cn_lt {a b : Nat} (ha : a < 2147483648) (hb : b < 2147483648) : cn a < cn b ↔ a < b := by
  rw [Int32.lt_iff_toInt_lt, t_cn ha, t_cn hb]; omega
theorem cn_le {a b : Nat} (ha : a < 2147483648) (hb : b < 2147483648) : cn a ≤ cn b ↔ a ≤ b := by
  rw [Int32.le_iff_toInt_le, t_cn ha, t_cn hb]; omega
theorem cn_inj {a b : Nat} (ha : a < 2147483648) (hb : b < 2147483648) : cn a = cn b ↔ a = b := by
  constructor
  · intro h
    have h2 : (cn a).toInt = (cn b).toInt := by rw [h]
    rw [t_cn ha, t_cn hb] at h2
    omega
  · intro h; rw [h]
theorem cn_nn {n : Nat} (h : n < 2147483648) : ¬ cn n < 0 := t_of_nn (by rw [t_cn h]; omega)
theorem cnof {x : Int32} (h : 0 ≤ x.toInt) : x = cn x.toInt.toNat := Int32.toInt_inj.mp (by
  have := @t_lt x
  rw [t_cn (by omega)]; omega)
theorem cn_add {a b : Nat} (h : a + b < 2147483648) : cn a + cn b = cn (a + b) := Int32.toInt_inj.mp (by
  rw [t_add (by rw [t_cn (by omega), t_cn (by omega)]; omega) (by rw [t_cn (by omega), t_cn (by omega)]; omega), t_cn (by omega), t_cn (by omega), t_cn h]; omega)
theorem cn_mul {a b : Nat} (ha : a < 2147483648) (hb : b < 2147483648) (h : a * b < 2147483648) : cn a * cn b = cn (a * b) := Int32.toInt_inj.mp (by
  have e : (a : Int) * (b : Int) = ((a * b : Nat) : Int) := by rw [Int.natCast_mul]
  rw [t_mul (by rw [t_cn ha, t_cn hb, e]; omega) (by rw [t_cn ha, t_cn hb, e]; omega), t_cn ha, t_cn hb, t_cn h, e])
theorem cnu {a : Nat} (h : a + 1 < 2147483648) : cn a + ci 1 = cn (a + 1) := cn_add h
theorem cn_ix {a n : Nat} (ha : a < n) (hb : n < 2147483648) : ¬ (cn a < 0 ∨ n ≤ (cn a).toNatClampNeg) := by
  rw [cn_nat (by omega)]
  exact fun h => h.elim (cn_nn (by omega)) (by omega)
theorem mu_ap {D : Nat → Nat → Int32} {i k j l : Nat} {v : Int32} : mu D i k v j l = if j = i ∧ l = k then v else D j l := by
  by_cases h : j = i ∧ l = k
  · rw [if_pos h, h.1, h.2]; exact mu_same
  · rw [if_neg h]; exact mu_cell (by omega)
theorem V_at {t : Nat} {s : mG} {a1 a2 : Int32} {r c n W : Nat} (h1 : a1 = cn r) (h2 : a2 = cn c) (hw : s.1 t 1 = cn W) (hn : s.1 t 3 = cn n) (hr : r < n) (hc : c < W) (hl : n * W ≤ m_alen (t + 1)) (hb : n < 2147483648) : F_X10_at t s a1 a2 = some (s.1 (t + 1) (r * W + c)) := by
  have hm := m_alen_lt (t + 1)
  have hrw : r * W + c < n * W := by
    have h3 : (r + 1) * W ≤ n * W := Nat.mul_le_mul_right W (by omega)
    rw [Nat.add_mul, Nat.one_mul] at h3
    omega
  have hW : W ≤ n * W := Nat.le_mul_of_pos_left W (by omega)
  have e : cn r * s.1 t 1 + cn c = cn (r * W + c) := by
    rw [hw, cn_mul (by omega) (by omega) (by omega), cn_add (by omega)]
  subst h1; subst h2
  unfold F_X10_at F_X10_at_38
  dsimp only
  rw [e, hn, hw, if_neg (cn_nn (by omega)), if_neg (fun h => absurd ((cn_le (by omega) (by omega)).mp h) (by omega)), if_neg (cn_nn (by omega)), if_neg (fun h => absurd ((cn_le (by omega) (by omega)).mp h) (by omega)), if_neg (by decide), if_neg (cn_nn (by omega)), if_neg (fun h => absurd ((cn_le hm (by omega)).mp h) (by omega)), if_neg (cn_ix (by omega) hm), cn_nat (by omega)]
theorem V_put {t : Nat} {s : mG} {a1 a2 v : Int32} {r c n W : Nat} (h1 : a1 = cn r) (h2 : a2 = cn c) (hw : s.1 t 1 = cn W) (hn : s.1 t 3 = cn n) (hr : r < n) (hc : c < W) (hl : n * W ≤ m_alen (t + 1)) (hb : n < 2147483648) : F_X10_put t a1 a2 v s = some (mu s.1 (t + 1) (r * W + c) v, s.2) := by
  have hm := m_alen_lt (t + 1)
  have hrw : r * W + c < n * W := by
    have h3 : (r + 1) * W ≤ n * W := Nat.mul_le_mul_right W (by omega)
    rw [Nat.add_mul, Nat.one_mul] at h3
    omega
  have hW : W ≤ n * W := Nat.le_mul_of_pos_left W (by omega)
  have e : cn r * s.1 t 1 + cn c = cn (r * W + c) := by
    rw [hw, cn_mul (by omega) (by omega) (by omega), cn_add (by omega)]
  subst h1; subst h2
  unfold F_X10_put F_X10_put_39
  dsimp only
  rw [e, hn, hw, if_neg (cn_nn (by omega)), if_neg (fun h => absurd ((cn_le (by omega) (by omega)).mp h) (by omega)), if_neg (cn_nn (by omega)), if_neg (fun h => absurd ((cn_le (by omega) (by omega)).mp h) (by omega)), if_neg (by decide), if_neg (cn_nn (by omega)), if_neg (fun h => absurd ((cn_le hm (by omega)).mp h) (by omega)), if_neg (cn_ix (by omega) hm), cn_nat (by omega)]
theorem V_full {t : Nat} {s : mG} {n m : Nat} (h0 : s.1 t 0 = cn m) (h3 : s.1 t 3 = cn n) (hn : n < 2147483648) (hm : m < 2147483648) : F_X10_isFull t s = some (if n < m then ci 0 else ci 1) := by
  unfold F_X10_isFull
  rw [h0, h3]
  by_cases h : n < m
  · rw [if_pos h, if_pos ((cn_lt hn hm).mpr h)]
  · rw [if_neg h, if_neg (fun k => h ((cn_lt hn hm).mp k))]
theorem V_add {t : Nat} {s : mG} {n m : Nat} (h0 : s.1 t 0 = cn m) (h3 : s.1 t 3 = cn n) (hm : m < 2147483648) (h : n < m) : F_X10_add t s = some (cn n, (mu s.1 t 3 (cn (n + 1)), s.2)) := by
  unfold F_X10_add
  rw [V_full h0 h3 (by omega) hm, if_pos h, b1_some, if_pos (by decide), h3, cnu (by omega)]
  have e : (mu s.1 t 3 (cn (n + 1)), s.2).1 t 3 - ci 1 = cn n := by
    rw [mu_sameP, ← cnu (by omega)]
    exact Int32.add_sub_cancel _ _
  dsimp only
  rw [show mu s.1 t 3 (cn (n + 1)) t 3 - ci 1 = cn n from e]
theorem V_add1 {t : Nat} {s : mG} {n m : Nat} (h0 : s.1 t 0 = cn m) (h3 : s.1 t 3 = cn n) (hn : n < 2147483648) (hm : m < 2147483648) (h : ¬ n < m) : F_X10_add t s = some (ci (-1), s) := by
  unfold F_X10_add
  rw [V_full h0 h3 hn hm, if_neg h, b1_some, if_neg (by decide)]
/-- a table copied -/
def CPo (t a k : Nat) (s s' : mG) : Prop := s'.2 = s.2 ∧ (∀ i, i ≠ t → i ≠ t + 1 → s'.1 i = s.1 i) ∧ (∀ j, j ≠ 3 → s'.1 t j = s.1 t j) ∧ s'.1 t 3 = s.1 a 3 ∧ (∀ j, j < k → s'.1 (t + 1) j = s.1 (a + 1) j) ∧ ∀ j, k ≤ j → s'.1 (t + 1) j = s.1 (t + 1) j
theorem V_copy {t a : Nat} {s : mG} {n m W : Nat} (hd : a ≠ t ∧ a + 1 ≠ t ∧ a ≠ t + 1) (h0 : s.1 t 0 = cn m) (h3 : s.1 a 3 = cn n) (hw : s.1 t 1 = cn W) (hnm : n ≤ m) (hm : m < 2147483648) (hl : n * W ≤ m_alen (t + 1)) (hl2 : n * W ≤ m_alen (a + 1)) (hW : W < 2147483648) : pk (F_X10_copyFrom t a s) (CPo t a (n * W) s) := by
  have b1 := m_alen_lt (t + 1)
  have b2 := m_alen_lt (a + 1)
  unfold F_X10_copyFrom
  extract_lets s1 v2
  have e3 : s1.1 t 3 = cn n := by
    refine mu_sameP.trans ?_
    rw [h3, h0]
    exact if_neg fun k => absurd ((cn_lt (by omega) (by omega)).mp k) (by omega)
  have ev : v2 = cn (n * W) := by
    have e1 : s1.1 t 1 = cn W := (mu_cell (by omega)).trans hw
    show s1.1 t 3 * s1.1 t 1 = _
    rw [e3, e1, cn_mul (by omega) hW (by omega)]
  have q2 : s1.2 = s.2 := rfl
  have qr : ∀ i, i ≠ t → s1.1 i = s.1 i := fun i hi => mu_row hi
  have qc : ∀ j, j ≠ 3 → s1.1 t j = s.1 t j := fun j hj => mu_cell (Or.inr hj)
  clear_value v2 s1
  unfold F_X10_copyFrom_L27
  refine pk_whl (fun v => v.1 = cn (n * W) ∧ ∃ k, v.2.1 = cn k ∧ k ≤ n * W ∧ CPo t a k s v.2.2) ⟨ev, 0, rfl, Nat.zero_le _, q2, fun i h1 _ => qr i h1, qc, e3.trans h3.symm, fun j hj => absurd hj (by omega), fun j _ => congrFun (qr (t + 1) (by omega)) j⟩ (fun v hv => ?_)
  obtain ⟨x2, x3, u⟩ := v
  obtain ⟨g1, k, g2, g3, g4⟩ := hv
  have g1 : x2 = cn (n * W) := g1
  have g2 : x3 = cn k := g2
  have g4 : CPo t a k s u := g4
  obtain ⟨c1, c2, c3, c4, c5, c6⟩ := g4
  subst g1; subst g2
  unfold F_X10_copyFrom_B27
  by_cases hk : n * W ≤ k
  · rw [if_pos ((cn_le (by omega) (by omega)).mpr hk)]
    exact pk_some (show CPo t a (n * W) s u from ⟨c1, c2, c3, c4, fun j hj => c5 j (by omega), fun j hj => c6 j (by omega)⟩)
  · rw [if_neg (fun h => hk ((cn_le (by omega) (by omega)).mp h)), if_neg (fun h => absurd ((cn_le b1 (by omega)).mp h) (by omega)), if_neg (fun h => absurd ((cn_le b2 (by omega)).mp h) (by omega)), if_neg (cn_ix (by omega) b2), if_neg (cn_ix (by omega) b1), cn_nat (by omega), cnu (by omega)]
    have ea : u.1 (a + 1) k = s.1 (a + 1) k := congrFun (c2 (a + 1) (by omega) (by omega)) k
    refine pk_some (show _ ∧ _ from ⟨rfl, k + 1, rfl, by omega, c1, fun i h1 h2 => (mu_row h2).trans (c2 i h1 h2), fun j hj => (mu_cell (by omega)).trans (c3 j hj), (mu_cell (by omega)).trans c4, fun j hj => ?_, fun j hj => (mu_cell (by omega)).trans (c6 j (by omega))⟩)
    by_cases hjk : j = k
    · subst hjk; exact mu_same.trans ea
    · exact (mu_cell (Or.inr hjk)).trans (c5 j (by omega))
/-! the class's own tests -/
theorem V_within {s : mG} {a b c : Int32} : F_X11_isWithin s a b c = some (wi a b c) := by
  unfold F_X11_isWithin F_X11_isWithin_14 wi
  by_cases h1 : a < b
  · rw [if_pos h1, if_pos h1]
  · rw [if_neg h1, if_neg h1]
    by_cases h2 : c < a
    · rw [if_pos h2, if_pos h2]
    · rw [if_neg h2, if_neg h2]
theorem V_hasRow {t : Nat} {s : mG} {a : Int32} : F_X10_hasRow t s a = some (ig a (s.1 t 3)) := by
  unfold F_X10_hasRow F_X10_hasRow_16 ig
  by_cases h1 : a < 0
  · rw [if_pos h1, if_pos h1]
  · rw [if_neg h1, if_neg h1]
    by_cases h2 : s.1 t 3 ≤ a
    · rw [if_pos h2, if_pos h2]
    · rw [if_neg h2, if_neg h2]
theorem V_isGuest {h : Nat} {s : mG} {a : Int32} : F_X2_isGuest h s a = some (ig a (s.1 (h + 1) 3)) := by
  unfold F_X2_isGuest
  rw [V_hasRow, b1_some]
  exact if_pos ig_pb
end
end
/-! 59.z.l1 -/
section
noncomputable section
/-! THE CLASS'S PAST, ITS IMAGE, ITS GUESTS, ROOMS AND CALLERS: how many there are -/
def TS (t W M : Nat) (s : mG) : Prop := s.1 t 0 = cn M ∧ s.1 t 1 = cn W ∧ ∃ n, n ≤ M ∧ s.1 t 3 = cn n
def PS (s : mG) : Prop := ∃ c t : Nat, c ≤ 6 ∧ t < 6 ∧ s.1 35 1 = cn c ∧ s.1 35 2 = cn t ∧ ∀ i, i < 6 → (t + 5 - i) % 6 < c → s.1 (37 + 3 * i + 1) 3 = s.1 2 3
def C1 (s : mG) : Prop := (TS 2 11 12 s ∧ TS 14 4 8 s ∧ TS 16 3 8 s) ∧ (TS 19 11 12 s ∧ TS 31 4 8 s ∧ TS 33 3 8 s) ∧ (∀ i, i < 6 → TS (37 + 3 * i + 1) 11 12 s) ∧ PS s
theorem TS_row {t W M : Nat} {s s' : mG} (h : TS t W M s) (e : s'.1 t = s.1 t) : TS t W M s' := by
  unfold TS; rw [e]; exact h
theorem TS_cells {t W M : Nat} {s s' : mG} (h : TS t W M s) (e : ∀ j, j ≠ 3 → s'.1 t j = s.1 t j) {n : Nat} (hn : n ≤ M) (e3 : s'.1 t 3 = cn n) : TS t W M s' :=
  ⟨(e 0 (by decide)).trans h.1, (e 1 (by decide)).trans h.2.1, n, hn, e3⟩
theorem C1_same {s s' : mG} (h : C1 s) (e2 : s'.1 2 = s.1 2) (e14 : s'.1 14 = s.1 14) (e16 : s'.1 16 = s.1 16) (ek : ∀ j, 19 ≤ j → j ≤ 33 → s'.1 j = s.1 j) (em : ∀ j, 35 ≤ j → j ≤ 54 → s'.1 j = s.1 j) : C1 s' := by
  obtain ⟨⟨a1, a2, a3⟩, ⟨b1, b2, b3⟩, c, ⟨n, t, hn, ht, p1, p2, p3⟩⟩ := h
  refine ⟨⟨TS_row a1 e2, TS_row a2 e14, TS_row a3 e16⟩, ⟨TS_row b1 (ek _ (by omega) (by omega)), TS_row b2 (ek _ (by omega) (by omega)), TS_row b3 (ek _ (by omega) (by omega))⟩, fun i hi => TS_row (c i hi) (em _ (by omega) (by omega)), n, t, hn, ht, ?_, ?_, fun i hi hl => ?_⟩
  · rw [em 35 (by omega) (by omega)]; exact p1
  · rw [em 35 (by omega) (by omega)]; exact p2
  · rw [em _ (by omega) (by omega), e2]; exact p3 i hi hl
/-- all is forgotten -/
theorem C1_forget {s s' : mG} (h : C1 s) (e2 : TS 2 11 12 s') (e14 : s'.1 14 = s.1 14) (e16 : s'.1 16 = s.1 16) (ek : ∀ j, 19 ≤ j → j ≤ 33 → s'.1 j = s.1 j) (em : ∀ j, 36 ≤ j → j ≤ 54 → s'.1 j = s.1 j) (e0 : s'.1 35 1 = ci 0) (et : s'.1 35 2 = s.1 35 2) : C1 s' := by
  obtain ⟨⟨_, a2, a3⟩, ⟨b1, b2, b3⟩, c, ⟨n, t, hn, ht, p1, p2, p3⟩⟩ := h
  exact ⟨⟨e2, TS_row a2 e14, TS_row a3 e16⟩, ⟨TS_row b1 (ek _ (by omega) (by omega)), TS_row b2 (ek _ (by omega) (by omega)), TS_row b3 (ek _ (by omega) (by omega))⟩, fun i hi => TS_row (c i hi) (em _ (by omega) (by omega)), 0, t, by omega, ht, e0.trans rfl, et.trans p2, fun i hi hl => absurd hl (by omega)⟩
theorem V_moment {s : mG} {a1 : Int32} {i : Nat} (h : a1 = cn i) (hi : i < 6) : F_X5_momentAt s a1 = some (some (37 + 3 * i)) := by
  subst h
  unfold F_X5_momentAt
  rw [if_neg (cn_nn (by omega)), if_neg (fun h => absurd ((cn_le (by omega) (by omega)).mp h) (by omega)), if_neg (cn_ix hi (by omega)), cn_nat (by omega)]
theorem al_mo : ∀ i, i < 6 → m_alen (37 + 3 * i + 1 + 1) = 132 := by decide +kernel
theorem al_3 : m_alen (2 + 1) = 132 := by decide +kernel
theorem rm_up : ∀ t, t < 6 → rm (cn t + ci 1) (c8 6) = cn ((t + 1) % 6) := by decide +kernel
theorem rm_dn : ∀ t, t < 6 → rm ((cn t + c8 6) - ci 1) (c8 6) = cn ((t + 5) % 6) := by decide +kernel
theorem im_up : ∀ c, c < 7 → imin (cn c + ci 1) (c8 6) = cn (if c < 6 then c + 1 else 6) := by decide +kernel
theorem cnd : ∀ c, c < 7 → c ≠ 0 → cn c - ci 1 = cn (c - 1) := by decide +kernel
/-- a moment takes the house -/
def TKo (t n : Nat) (s u : mG) : Prop := u.2 = s.2 ∧ (∀ i, (i < 37 + 3 * t ∨ 37 + 3 * t + 2 < i) → u.1 i = s.1 i) ∧ (∀ j, j ≠ 3 → u.1 (37 + 3 * t + 1) j = s.1 (37 + 3 * t + 1) j) ∧ u.1 (37 + 3 * t + 1) 3 = s.1 2 3 ∧ (∀ j, j < n * 11 → u.1 (37 + 3 * t + 1 + 1) j = s.1 3 j) ∧ u.1 (37 + 3 * t) 1 = s.1 4 3 ∧ u.1 (37 + 3 * t) 2 = s.1 1 10 ∧ u.1 (37 + 3 * t) 3 = s.1 1 11
theorem V_take {s : mG} {t n : Nat} (ht : t < 6) (hm : TS (37 + 3 * t + 1) 11 12 s) (h3 : s.1 2 3 = cn n) (hn : n ≤ 12) : pk (F_X4_takeFrom (37 + 3 * t) 1 s) (TKo t n s) := by
  unfold F_X4_takeFrom
  refine pk_b1 (V_copy (t := 37 + 3 * t + 1) (a := 1 + 1) (W := 11) (by omega) hm.1 h3 hm.2.1 hn (by decide) (by rw [al_mo t ht]; omega) (by rw [show 1 + 1 + 1 = 2 + 1 by rfl, al_3]; omega) (by decide)) (fun u hu => ?_)
  obtain ⟨c1, c2, c3, c4, c5, c6⟩ := hu
  dsimp only
  refine pk_some ⟨c1, fun i hi => ?_, fun j hj => ?_, ?_, fun j hj => ?_, ?_, ?_, ?_⟩
  all_goals dsimp only
  · rw [mu_row (by omega), mu_row (by omega), mu_row (by omega)]; exact c2 i (by omega) (by omega)
  · rw [mu_row (by omega), mu_row (by omega), mu_row (by omega)]; exact c3 j hj
  · rw [mu_row (by omega), mu_row (by omega), mu_row (by omega)]; exact c4
  · rw [mu_row (by omega), mu_row (by omega), mu_row (by omega)]; exact c5 j hj
  · rw [mu_cell (by omega), mu_cell (by omega), mu_same]; exact congrFun (c2 4 (by omega) (by omega)) 3
  · rw [mu_cell (by omega), mu_same, mu_row (by omega)]; exact congrFun (c2 1 (by omega) (by omega)) 10
  · rw [mu_same, mu_row (by omega), mu_row (by omega)]; exact congrFun (c2 1 (by omega) (by omega)) 11
/-- the past keeps a moment -/
def KEo (t c n : Nat) (s u : mG) : Prop := u.2 = s.2 ∧ (∀ i, i ≠ 35 → (i < 37 + 3 * t ∨ 37 + 3 * t + 2 < i) → u.1 i = s.1 i) ∧ (∀ j, j ≠ 3 → u.1 (37 + 3 * t + 1) j = s.1 (37 + 3 * t + 1) j) ∧ u.1 (37 + 3 * t + 1) 3 = s.1 2 3 ∧ (∀ j, j < n * 11 → u.1 (37 + 3 * t + 1 + 1) j = s.1 3 j) ∧ u.1 (37 + 3 * t) 1 = s.1 4 3 ∧ u.1 (37 + 3 * t) 2 = s.1 1 10 ∧ u.1 (37 + 3 * t) 3 = s.1 1 11 ∧ u.1 35 1 = cn (if c < 6 then c + 1 else 6) ∧ u.1 35 2 = cn ((t + 1) % 6)
theorem V_keep {s : mG} {t c n : Nat} (ht : t < 6) (hc : c ≤ 6) (e1 : s.1 35 1 = cn c) (e2 : s.1 35 2 = cn t) (hm : TS (37 + 3 * t + 1) 11 12 s) (h3 : s.1 2 3 = cn n) (hn : n ≤ 12) : pk (F_X5_keep 1 s) (KEo t c n s) := by
  unfold F_X5_keep
  rw [V_moment e2 ht, bo_some]
  refine pk_b1 (V_take ht hm h3 hn) (fun u hu => ?_)
  obtain ⟨y1, y2, y3, y4, y5, y6, y7, y8⟩ := hu
  dsimp only
  have r35 : u.1 35 = s.1 35 := y2 35 (by omega)
  have x1 : rm (u.1 35 2 + ci 1) (c8 6) = cn ((t + 1) % 6) := by rw [r35, e2]; exact rm_up t ht
  have x2 : imin (u.1 35 1 + ci 1) (c8 6) = cn (if c < 6 then c + 1 else 6) := by rw [r35, e1]; exact im_up c (by omega)
  refine pk_some ⟨y1, fun i h1 h2 => ?_, fun j hj => ?_, ?_, fun j hj => ?_, ?_, ?_, ?_, ?_, ?_⟩
  all_goals dsimp only
  · rw [mu_row (by omega), mu_row (by omega)]; exact y2 i h2
  · rw [mu_row (by omega), mu_row (by omega)]; exact y3 j hj
  · rw [mu_row (by omega), mu_row (by omega)]; exact y4
  · rw [mu_row (by omega), mu_row (by omega)]; exact y5 j hj
  · rw [mu_row (by omega), mu_row (by omega)]; exact y6
  · rw [mu_row (by omega), mu_row (by omega)]; exact y7
  · rw [mu_row (by omega), mu_row (by omega)]; exact y8
  · rw [mu_same, mu_cell (by omega)]; exact x2
  · rw [mu_cell (by omega), mu_same]; exact x1
theorem C1_keep {s : mG} (h : C1 s) : pk (F_X5_keep 1 s) (fun u => C1 u ∧ u.2 = s.2 ∧ ∀ i, (i < 35 ∨ 54 < i) → u.1 i = s.1 i) := by
  obtain ⟨⟨a1, a2, a3⟩, ⟨b1, b2, b3⟩, cc, ⟨c, t, hc, ht, p1, p2, p3⟩⟩ := h
  obtain ⟨_, _, n, hn, h3⟩ := a1
  refine fun u hu => ?_
  obtain ⟨k1, k2, k3, k4, k5, k6, k7, k8, k9, k10⟩ := V_keep ht hc p1 p2 (cc t ht) h3 hn u hu
  have row : ∀ i, (i < 35 ∨ 54 < i) → u.1 i = s.1 i := fun i hi => k2 i (by omega) (by omega)
  refine ⟨⟨⟨TS_row ⟨‹_›, ‹_›, n, hn, h3⟩ (row 2 (by omega)), TS_row a2 (row 14 (by omega)), TS_row a3 (row 16 (by omega))⟩, ⟨TS_row b1 (row 19 (by omega)), TS_row b2 (row 31 (by omega)), TS_row b3 (row 33 (by omega))⟩, fun i hi => ?_, if c < 6 then c + 1 else 6, (t + 1) % 6, by split <;> omega, by omega, k9, k10, fun i hi hl => ?_⟩, k1, row⟩
  · by_cases hit : i = t
    · subst hit; exact TS_cells (cc i hi) k3 hn (k4.trans h3)
    · exact TS_row (cc i hi) (k2 _ (by omega) (by omega))
  · rw [row 2 (by omega)]
    by_cases hit : i = t
    · subst hit; exact k4
    · rw [k2 _ (by omega) (by omega)]
      refine p3 i hi ?_
      by_cases hc6 : c < 6
      · rw [if_pos hc6] at hl; omega
      · omega
/-- the last moment is given back -/
theorem C1_giveBack {s : mG} (h : C1 s) : pk (F_X5_giveBack 1 s) (fun τ => C1 τ.2 ∧ (∀ j, τ.2.1 2 j = s.1 2 j) ∧ ∀ i, 4 < i → i ≠ 35 → τ.2.1 i = s.1 i) := by
  have h0 := h
  obtain ⟨⟨a1, a2, a3⟩, ⟨b1, b2, b3⟩, cc, ⟨c, t, hc, ht, p1, p2, p3⟩⟩ := h
  obtain ⟨w0, w1, n, hn, h3⟩ := a1
  unfold F_X5_giveBack F_X5_giveBack_30
  dsimp only
  rw [p2, rm_dn t ht, V_moment rfl (Nat.mod_lt _ (by decide)), bo_some]
  have hl : (t + 5) % 6 < 6 := Nat.mod_lt _ (by decide)
  by_cases hz : s.1 35 1 = 0
  · rw [if_pos hz]; exact pk_some ⟨h0, fun _ => rfl, fun _ _ _ => rfl⟩
  rw [if_neg hz]
  have hc0 : c ≠ 0 := fun e => hz (by rw [p1, e]; rfl)
  have hlv : (t + 5 - (t + 5) % 6) % 6 < c := by omega
  have hrow := p3 _ hl hlv
  have hlt : (t + 5) % 6 = if t = 0 then 5 else t - 1 := by split <;> omega
  generalize (t + 5) % 6 = l at *
  unfold F_X4_giveTo
  have hcp := V_copy (t := 1 + 1) (a := 37 + 3 * l + 1) (s := s) (n := n) (m := 12) (W := 11) (by omega) w0 (hrow.trans h3) w1 hn (by decide) (by rw [show 1 + 1 + 1 = 2 + 1 by rfl, al_3]; omega) (by rw [al_mo l hl]; omega) (by decide)
  refine pk_b1 (P := fun u => ∃ u0, CPo (1 + 1) (37 + 3 * l + 1) (n * 11) s u0 ∧ ∃ x y z, u = (mu (mu (mu u0.1 4 3 x) 1 10 y) 1 11 z, u0.2)) ?_ (fun u hu => ?_)
  · exact pk_b1 hcp (fun u hu => pk_some ⟨u, hu, _, _, _, rfl⟩)
  obtain ⟨u0, ⟨c1, c2, c3, c4, c5, c6⟩, x, y, z, rfl⟩ := hu
  have row : ∀ i, 4 < i → u0.1 i = s.1 i := fun i hi => c2 i (by omega) (by omega)
  have r35 : u0.1 35 = s.1 35 := row 35 (by omega)
  dsimp only
  have x1 : mu (mu (mu (mu u0.1 4 3 x) 1 10 y) 1 11 z) 35 2 (cn l) 35 1 - ci 1 = cn (c - 1) := by
    rw [mu_cell (by omega), mu_row (by omega), mu_row (by omega), mu_row (by omega), r35, p1]
    exact cnd c (by omega) hc0
  rw [x1]
  have row2 : ∀ i, 4 < i → i ≠ 35 → mu (mu (mu (mu (mu u0.1 4 3 x) 1 10 y) 1 11 z) 35 2 (cn l)) 35 1 (cn (c - 1)) i = s.1 i := fun i h1 h2 => by
    rw [mu_row h2, mu_row h2, mu_row (by omega), mu_row (by omega), mu_row (by omega)]; exact row i h1
  have row3 : mu (mu (mu (mu (mu u0.1 4 3 x) 1 10 y) 1 11 z) 35 2 (cn l)) 35 1 (cn (c - 1)) 2 = u0.1 2 := by
    rw [mu_row (by omega), mu_row (by omega), mu_row (by omega), mu_row (by omega), mu_row (by omega)]
  have e2 : ∀ j, mu (mu (mu (mu (mu u0.1 4 3 x) 1 10 y) 1 11 z) 35 2 (cn l)) 35 1 (cn (c - 1)) 2 j = s.1 2 j := fun j => by
    rw [row3]
    by_cases hj : j = 3
    · subst hj; exact c4.trans hrow
    · exact c3 j hj
  have e351 : mu (mu (mu (mu (mu u0.1 4 3 x) 1 10 y) 1 11 z) 35 2 (cn l)) 35 1 (cn (c - 1)) 35 1 = cn (c - 1) := mu_same
  have e352 : mu (mu (mu (mu (mu u0.1 4 3 x) 1 10 y) 1 11 z) 35 2 (cn l)) 35 1 (cn (c - 1)) 35 2 = cn l := (mu_cell (by omega)).trans mu_same
  generalize mu (mu (mu (mu (mu u0.1 4 3 x) 1 10 y) 1 11 z) 35 2 (cn l)) 35 1 (cn (c - 1)) = D at *
  refine pk_some ⟨⟨⟨⟨(e2 0).trans w0, (e2 1).trans w1, n, hn, (e2 3).trans h3⟩, TS_row a2 (row2 14 (by omega) (by omega)), TS_row a3 (row2 16 (by omega) (by omega))⟩, ⟨TS_row b1 (row2 19 (by omega) (by omega)), TS_row b2 (row2 31 (by omega) (by omega)), TS_row b3 (row2 33 (by omega) (by omega))⟩, fun i hi => TS_row (cc i hi) (row2 _ (by omega) (by omega)), c - 1, l, by omega, hl, e351, e352, fun i hi hv => ?_⟩, e2, row2⟩
  show D _ 3 = D 2 3
  rw [e2 3, row2 _ (by omega) (by omega)]
  refine p3 i hi ?_
  split at hlt <;> omega
/-! the image -/
theorem V_copyF {t a : Nat} {s : mG} : pk (F_X10_copyFrom t a s) (fun s' => ∀ i, i ≠ t → i ≠ t + 1 → s'.1 i = s.1 i) := by
  unfold F_X10_copyFrom
  extract_lets s1 v2
  have qr : ∀ i, i ≠ t → i ≠ t + 1 → s1.1 i = s.1 i := fun i hi _ => mu_row hi
  clear_value v2 s1
  unfold F_X10_copyFrom_L27
  refine pk_whl (fun v => ∀ i, i ≠ t → i ≠ t + 1 → v.2.2.1 i = s.1 i) qr (fun v hv => ?_)
  obtain ⟨x2, x3, u⟩ := v
  have hv : ∀ i, i ≠ t → i ≠ t + 1 → u.1 i = s.1 i := hv
  unfold F_X10_copyFrom_B27
  refine pk_ite (pk_some hv) (pk_ite (pk_some hv) (pk_ite (pk_some hv) (pk_nn (pk_nn ?_))))
  exact pk_some (show ∀ i, i ≠ t → i ≠ t + 1 → (mu u.1 (t + 1) _ _, u.2).1 i = s.1 i from fun i h1 h2 => (mu_row h2).trans (hv i h1 h2))
/-- guests, rooms and callers of a house copied -/
def HPo (h a nr : Nat) (s u : mG) : Prop := (∀ i, (i < h ∨ h + 16 < i) → u.1 i = s.1 i) ∧ (∀ j, j ≠ 3 → u.1 (h + 1) j = s.1 (h + 1) j) ∧ u.1 (h + 1) 3 = s.1 (a + 1) 3 ∧ (∀ j, j ≠ 3 → u.1 (h + 13) j = s.1 (h + 13) j) ∧ u.1 (h + 13) 3 = s.1 (a + 13) 3 ∧ (∀ j, j ≠ 3 → u.1 (h + 15) j = s.1 (h + 15) j) ∧ u.1 (h + 15) 3 = s.1 (a + 15) 3 ∧ ∀ j, j < nr * 4 → u.1 (h + 14) j = s.1 (a + 14) j
theorem V_house {h a : Nat} {s : mG} {ng nr nc : Nat} (hd : h + 17 ≤ a ∨ a + 17 ≤ h) (lg : m_alen (h + 1 + 1) = 132 ∧ m_alen (a + 1 + 1) = 132) (lr : m_alen (h + 13 + 1) = 32 ∧ m_alen (a + 13 + 1) = 32) (lc : m_alen (h + 15 + 1) = 24 ∧ m_alen (a + 15 + 1) = 24)
    (tg : TS (h + 1) 11 12 s) (tr : TS (h + 13) 4 8 s) (tc : TS (h + 15) 3 8 s) (eg : s.1 (a + 1) 3 = cn ng) (er : s.1 (a + 13) 3 = cn nr) (ec : s.1 (a + 15) 3 = cn nc) (hg : ng ≤ 12) (hr : nr ≤ 8) (hc : nc ≤ 8) : pk (F_X2_copyFrom h a s) (HPo h a nr s) := by
  unfold F_X2_copyFrom
  refine pk_b1 (V_copy (t := h + 1) (a := a + 1) (W := 11) (by omega) tg.1 eg tg.2.1 hg (by decide) (by rw [lg.1]; omega) (by rw [lg.2]; omega) (by decide)) (fun u1 q1 => ?_)
  refine pk_b1 V_copyF (fun u2 q2 => ?_)
  refine pk_b1 V_copyF (fun u3 q3 => ?_)
  refine pk_b1 V_copyF (fun u4 q4 => ?_)
  refine pk_b1 V_copyF (fun u5 q5 => ?_)
  refine pk_b1 V_copyF (fun u6 q6 => ?_)
  obtain ⟨c1, c2, c3, c4, c5, c6⟩ := q1
  have r6 : ∀ i, (i < h + 3 ∨ h + 13 ≤ i) → u6.1 i = u1.1 i := fun i hi => by
    rw [q6 i (by omega) (by omega), q5 i (by omega) (by omega), q4 i (by omega) (by omega), q3 i (by omega) (by omega), q2 i (by omega) (by omega)]
  clear q2 q3 q4 q5 q6
  have e1 : u6.1 (h + 13) = s.1 (h + 13) := (r6 _ (by omega)).trans (c2 _ (by omega) (by omega))
  have e2 : u6.1 (a + 13) = s.1 (a + 13) := (r6 _ (by omega)).trans (c2 _ (by omega) (by omega))
  refine pk_b1 (V_copy (t := h + 13) (a := a + 13) (n := nr) (m := 8) (W := 4) (by omega) (by rw [e1]; exact tr.1) (by rw [e2]; exact er) (by rw [e1]; exact tr.2.1) hr (by decide) (by rw [lr.1]; omega) (by rw [lr.2]; omega) (by decide)) (fun u7 q7 => ?_)
  obtain ⟨d1, d2, d3, d4, d5, d6⟩ := q7
  have e3 : u7.1 (h + 15) = s.1 (h + 15) := (d2 _ (by omega) (by omega)).trans ((r6 _ (by omega)).trans (c2 _ (by omega) (by omega)))
  have e4 : u7.1 (a + 15) = s.1 (a + 15) := (d2 _ (by omega) (by omega)).trans ((r6 _ (by omega)).trans (c2 _ (by omega) (by omega)))
  refine pk_b1 (V_copy (t := h + 15) (a := a + 15) (n := nc) (m := 8) (W := 3) (by omega) (by rw [e3]; exact tc.1) (by rw [e4]; exact ec) (by rw [e3]; exact tc.2.1) hc (by decide) (by rw [lc.1]; omega) (by rw [lc.2]; omega) (by decide)) (fun u8 q8 => ?_)
  obtain ⟨f1, f2, f3, f4, f5, f6⟩ := q8
  have e5 : u6.1 (a + 14) = s.1 (a + 14) := (r6 _ (by omega)).trans (c2 _ (by omega) (by omega))
  have hh : ∀ i, i ≠ h → ∀ x y z w, mu (mu (mu (mu u8.1 h 8 x) h 9 y) h 10 z) h 11 w i = u8.1 i := fun i hi x y z w => by
    rw [mu_row hi, mu_row hi, mu_row hi, mu_row hi]
  dsimp only
  refine pk_some ⟨fun i hi => ?_, fun j hj => ?_, ?_, fun j hj => ?_, ?_, fun j hj => ?_, ?_, fun j hj => ?_⟩
  all_goals dsimp only
  · rw [hh i (by omega), f2 i (by omega) (by omega), d2 i (by omega) (by omega), r6 i (by omega), c2 i (by omega) (by omega)]
  · rw [hh _ (by omega), f2 _ (by omega) (by omega), d2 _ (by omega) (by omega), r6 _ (by omega)]; exact c3 j hj
  · rw [hh _ (by omega), f2 _ (by omega) (by omega), d2 _ (by omega) (by omega), r6 _ (by omega)]; exact c4
  · rw [hh _ (by omega), f2 _ (by omega) (by omega), d3 j hj, e1]
  · rw [hh _ (by omega), f2 _ (by omega) (by omega), d4, e2]
  · rw [hh _ (by omega), f3 j hj, e3]
  · rw [hh _ (by omega), f4, e4]
  · rw [hh _ (by omega), f2 _ (by omega) (by omega)]
    exact (d5 j hj).trans (by rw [e5])
end
end
/-! 59.z2.l1 -/
section
noncomputable section
/-! GUESTS, ROOMS, CALLERS: what both answer -/
theorem KB_rng {M : Nat} {z s : mG} (h : KB M z s) {a n : Nat} (d : (List.range' a n).all (fun j => !(M.testBit j)) = true) : ∀ j, a ≤ j → j < a + n → s.1 j = z.1 j := fun j h1 h2 => by
  refine h j ?_
  have h3 := List.all_eq_true.mp d j (List.mem_range'.mpr ⟨j - a, by omega, by omega⟩)
  simpa using h3
theorem kv0 {i k : Nat} {s : mG} : KV i k (s.1 i k) s := rfl
theorem ok_k {α : Type} {o : Option α} {P K Q : α → Prop} (h : ok o P) (k : pk o K) (m : ∀ a, P a → K a → Q a) : ok o Q := by
  obtain ⟨a, h1, h2⟩ := h
  exact ⟨a, h1, m a h2 (k a h1)⟩
theorem ok_kk {α : Type} {o : Option α} {P K L Q : α → Prop} (h : ok o P) (k : pk o K) (l : pk o L) (m : ∀ a, P a → K a → L a → Q a) : ok o Q := by
  obtain ⟨a, h1, h2⟩ := h
  exact ⟨a, h1, m a h2 (k a h1) (l a h1)⟩
def R1h (rg rr rc : Int32) (w : Nat → Int32) : Prop := rg = w 112 ∧ rr = w 118 ∧ rc = w 1049
def R1 (s : mG) : Prop := R1h (s.1 2 3) (s.1 14 3) (s.1 16 3) (s.1 89) ∧ PB (s.1 88 4) ∧ s.1 0 2 = s.1 88 4 ∧ (s.1 88 4 ≠ 0 → R1h (s.1 19 3) (s.1 31 3) (s.1 33 3) (s.1 90))
def JL (s : mG) : Prop := IC s ∧ IM s ∧ C1 s ∧ R1 s
theorem IM_rows {s s' : mG} (h : ∀ j, 88 ≤ j → s'.1 j = s.1 j) (hI : IM s) : IM s' := by
  unfold IM
  rw [h 88 (by decide), h 89 (by decide), h 90 (by decide), h 91 (by decide)]
  exact hI
theorem IC_rows {s s' : mG} (h : ∀ j, j < 88 → s'.1 j = s.1 j) (hI : IC s) : IC s' := by
  unfold IC
  rw [h 2 (by decide)]
  exact hI
theorem C1_rows {s s' : mG} (h : ∀ j, j < 88 → s'.1 j = s.1 j) (hI : C1 s) : C1 s' :=
  C1_same hI (h 2 (by decide)) (h 14 (by decide)) (h 16 (by decide)) (fun j _ h2 => h j (by omega)) (fun j _ h2 => h j (by omega))
/-- a call of the class that leaves these numbers -/
theorem JC {b : Bool} {s s' : mG} (h : JL s) (k : RC b s s') (c : C1 s') (e0 : s'.1 0 = s.1 0) (e2 : s'.1 2 3 = s.1 2 3) (e14 : s'.1 14 = s.1 14) (e16 : s'.1 16 = s.1 16) (ek : ∀ j, 19 ≤ j → j ≤ 33 → s'.1 j = s.1 j) : JL s' := by
  refine ⟨k.1, IM_rows k.2.1 h.2.1, c, ?_⟩
  unfold R1
  rw [e0, e2, e14, e16, ek 19 (by decide) (by decide), ek 31 (by decide) (by decide), ek 33 (by decide) (by decide), k.2.1 88 (by decide), k.2.1 89 (by decide), k.2.1 90 (by decide)]
  exact h.2.2.2
/-- thinking of the class: rows 68 to 87 alone -/
def MTH : Nat := 309485009821345068724781056 - 295147905179352825856
theorem JCt {b : Bool} {s s' : mG} (h : JL s) (k : RC b s s') (q : KB MTH s s') : JL s' := by
  have r := KB_rng q (a := 0) (n := 68) (by decide +kernel)
  refine JC h k (C1_same h.2.2.1 (r 2 (by decide) (by decide)) (r 14 (by decide) (by decide)) (r 16 (by decide) (by decide)) (fun j _ h2 => r j (by omega) (by omega)) (fun j _ h2 => r j (by omega) (by omega))) (r 0 (by decide) (by decide)) (by rw [r 2 (by decide) (by decide)]) (r 14 (by decide) (by decide)) (r 16 (by decide) (by decide)) (fun j _ h2 => r j (by omega) (by omega))
/-- a call of the reference that leaves these numbers -/
theorem JM {s s' : mG} (h : JL s) (k : RF s s') (e4 : s'.1 88 4 = s.1 88 4) (e90 : s'.1 90 = s.1 90) : JL s' := by
  refine ⟨IC_rows k.2.1 h.1, k.1, C1_rows k.2.1 h.2.2.1, ?_⟩
  unfold R1 R1h
  rw [e4, e90, k.2.1 0 (by decide), k.2.1 2 (by decide), k.2.1 14 (by decide), k.2.1 16 (by decide), k.2.1 19 (by decide), k.2.1 31 (by decide), k.2.1 33 (by decide), k.2.2 112 (by unfold SK; omega), k.2.2 118 (by unfold SK; omega), k.2.2 1049 (by unfold SK; omega)]
  exact h.2.2.2
theorem RM_RF {s s' : mG} (h : RM s s') (hl : ∀ j, j < 88 → s'.1 j = s.1 j) : RF s s' := ⟨h.1, hl, fun j _ => by rw [h.2.1 89 (by decide) (by decide)]⟩
theorem JMt {s s' : mG} (h : JL s) (k : RM s s') : JL s' := JM h ⟨k.1, fun j hj => k.2.1 j (by omega) (by omega), fun j _ => by rw [k.2.1 89 (by decide) (by decide)]⟩ k.2.2.2.1 (k.2.1 90 (by decide) (by decide))
/-! the class's other mutators -/
theorem V_putF {t : Nat} {s : mG} {a b c : Int32} : pk (F_X10_put t a b c s) (fun s' => ∀ i, i ≠ t + 1 → s'.1 i = s.1 i) := fun s' h => by
  obtain ⟨u, h1, h2, h3⟩ := X10_put_tot t s a b c
  rw [h1] at h
  exact Option.some.inj h ▸ h3
theorem C1_state {a1 : Int32} {s : mG} (h : C1 s) : pk (F_X11_state a1 s) (fun τ => C1 τ.2) := by
  unfold F_X11_state F_X5_forget
  dsimp only [b1_some]
  refine pk_some (C1_forget h (TS_row h.1.1 ?_) ?_ ?_ (fun j _ h2 => ?_) (fun j h1 _ => ?_) mu_sameP ?_)
  all_goals dsimp only
  all_goals first
    | rw [mu_row (by omega), mu_row (by omega)]
    | rw [mu_cell (by omega), mu_row (by omega)]
theorem C1_set {a1 a2 a3 : Int32} {s : mG} (h : C1 s) : pk (F_X11_set a1 a2 a3 s) (fun τ => C1 τ.2) := by
  have fin : ∀ u : mG, (∀ i, i ≠ 1 → i ≠ 3 → u.1 i = s.1 i) → pk (F_X11_set_56 u) (fun τ => C1 τ.2) := by
    intro u hu
    unfold F_X11_set_56 F_X5_forget
    dsimp only
    rw [b1_some]
    refine pk_some (C1_forget h (TS_row h.1.1 ?_) ?_ ?_ (fun j _ h2 => ?_) (fun j h1 _ => ?_) mu_sameP ?_)
    all_goals dsimp only
    all_goals first
      | (rw [mu_row (by omega)]; exact hu _ (by omega) (by omega))
      | (rw [mu_cell (by omega)]; exact congrFun (hu 35 (by omega) (by omega)) 2)
  unfold F_X11_set
  refine pk_b1 pk_top (fun _ _ => pk_ite (pk_some h) (pk_ite ?_ (pk_ite ?_ ?_)))
  · exact fin _ (fun i h1 _ => mu_row h1)
  · exact fin _ (fun i h1 _ => mu_row h1)
  · exact pk_b1 V_putF (fun u hu => fin u (fun i _ h3 => hu i h3))
theorem C1_hang {a1 a2 : Int32} {s : mG} (h : C1 s) : pk (F_X11_hang a1 a2 s) (fun τ => C1 τ.2) := by
  have no : pk (F_X11_hang_44 s) (fun τ => C1 τ.2) := pk_some h
  unfold F_X11_hang
  refine pk_b1 pk_top (fun _ _ => pk_ite no ?_)
  refine pk_b1 pk_top (fun _ _ => pk_ite no ?_)
  refine pk_b1 pk_top (fun _ _ => pk_ite no ?_)
  refine pk_b1 pk_top (fun _ _ => pk_ite ?_ no)
  refine pk_b1 (C1_keep h) (fun u hu => ?_)
  refine pk_b1 V_putF (fun u2 h2 => ?_)
  refine pk_b1 (W_X2_write (M := 48) (z := u2) (sub_and (by decide)) (by decide) (by decide) KB_rfl) (fun u3 h3 => ?_)
  have r : ∀ j, j ≠ 3 → (j < 4 ∨ 5 < j) → j < 88 → u3.1 j = u.1 j := fun j h1 h4 h5 => by
    rw [h3 j ?_, h2 j (by omega)]
    have : ∀ j, j < 88 → (j < 4 ∨ 5 < j) → Nat.testBit 48 j = false := by decide
    exact this j h5 h4
  exact pk_some (C1_same hu.1 (r 2 (by omega) (by omega) (by omega)) (r 14 (by omega) (by omega) (by omega)) (r 16 (by omega) (by omega) (by omega)) (fun j _ _ => r j (by omega) (by omega) (by omega)) (fun j _ _ => r j (by omega) (by omega) (by omega)))
theorem C1_looks {a1 a2 a3 : Int32} {s : mG} (h : C1 s) : pk (F_X11_looks a1 a2 a3 s) (fun τ => C1 τ.2) := by
  have no : pk (F_X11_looks_31 s) (fun τ => C1 τ.2) := pk_some h
  unfold F_X11_looks
  refine pk_b1 pk_top (fun _ _ => pk_ite no ?_)
  refine pk_b1 pk_top (fun _ _ => pk_ite no ?_)
  refine pk_b1 pk_top (fun _ _ => pk_ite no ?_)
  refine pk_b1 pk_top (fun _ _ => pk_ite (pk_some h) ?_)
  refine pk_b1 (C1_keep h) (fun u hu => ?_)
  refine pk_b1 V_putF (fun u3 h2 => ?_)
  have r : ∀ j, j ≠ 3 → u3.1 j = u.1 j := fun j h1 => h2 j h1
  exact pk_some (C1_same hu.1 (r 2 (by omega)) (r 14 (by omega)) (r 16 (by omega)) (fun j _ _ => r j (by omega)) (fun j _ _ => r j (by omega)))
theorem C1_hours {a1 : Int32} {s : mG} (h : C1 s) : pk (F_X11_hours a1 s) (fun τ => C1 τ.2) := by
  have no : pk (F_X11_hours_25 s) (fun τ => C1 τ.2) := pk_some h
  unfold F_X11_hours
  refine pk_b1 pk_top (fun _ _ => pk_ite no (pk_ite ?_ no))
  unfold F_X11_hours_L31
  refine pk_whl (fun v => C1 v.2.2.2) h (fun v hv => ?_)
  obtain ⟨x1, x2, x3, u⟩ := v
  have hv : C1 u := hv
  unfold F_X11_hours_B31
  refine pk_ite (pk_some hv) ?_
  refine pk_b1 (C1_keep hv) (fun u2 h2 => ?_)
  refine pk_b2 (W_X6_passHour (M := 6493253913945762168890) (z := u2) sub_rfl KB_rfl) (fun _ u3 h3 => ?_)
  have h3 : KB 6493253913945762168890 u2 u3 := h3
  have r2 := h3 2 (by decide +kernel)
  have r14 := h3 14 (by decide +kernel)
  have r16 := h3 16 (by decide +kernel)
  have rk := KB_rng h3 (a := 19) (n := 36) (by decide +kernel)
  exact pk_some (show C1 u3 from C1_same h2.1 r2 r14 r16 (fun j h1 _ => rk j h1 (by omega)) (fun j _ _ => rk j (by omega) (by omega)))
theorem C1_feed {a1 a2 a3 a4 a5 : Int32} {s : mG} (h : C1 s) : pk (F_X11_feed a1 a2 a3 a4 a5 s) (fun τ => C1 τ.2) := fun τ hτ => by
  have q := W_X11_feed (M := 18482772870728515584) (z := s) sub_rfl KB_rfl τ hτ
  have r := KB_rng q (a := 0) (n := 55) (by decide +kernel)
  exact C1_same h (r 2 (by decide) (by decide)) (r 14 (by decide) (by decide)) (r 16 (by decide) (by decide)) (fun j _ h2 => r j (by omega) (by omega)) (fun j _ h2 => r j (by omega) (by omega))
theorem C1_end {a1 : Int32} {s : mG} (h : C1 s) : pk (F_X11_end a1 s) (fun τ => C1 τ.2) := fun τ hτ => by
  have q := W_X11_end (M := 36028797018963968) (z := s) sub_rfl KB_rfl τ hτ
  have r := KB_rng q (a := 0) (n := 55) (by decide +kernel)
  exact C1_same h (r 2 (by decide) (by decide)) (r 14 (by decide) (by decide)) (r 16 (by decide) (by decide)) (fun j _ h2 => r j (by omega) (by omega)) (fun j _ h2 => r j (by omega) (by omega))
theorem C1_text {a1 : Int32} {s : mG} (h : C1 s) : pk (F_X11_text a1 s) (fun τ => C1 τ.2) := by
  unfold F_X11_text
  refine pk_b2 (W_X7_readText (M := 276665132308624310272) (z := s) sub_rfl KB_rfl) (fun v3 u hu => ?_)
  have hu : KB 276665132308624310272 s u := hu
  have r0 := KB_rng hu (a := 0) (n := 55) (by decide +kernel)
  extract_lets s4
  have r4 : ∀ j, j < 55 → s4.1 j = s.1 j := fun j hj => (mu_row (by omega)).trans (r0 j (by omega) (by omega))
  have c4 : C1 s4 := C1_same h (r4 2 (by decide)) (r4 14 (by decide)) (r4 16 (by decide)) (fun j _ h2 => r4 j (by omega)) (fun j _ h2 => r4 j (by omega))
  clear_value s4
  refine pk_ite (pk_some c4) (pk_ite ?_ ?_)
  · refine pk_b1 V_copyF (fun u2 h2 => pk_b1 V_copyF (fun u3 h3 => pk_some ?_))
    have r : ∀ j, j ≠ 6 → j ≠ 7 → j ≠ 8 → j ≠ 9 → u3.1 j = s4.1 j := fun j a b c d => (h3 j c d).trans (h2 j a b)
    exact C1_same c4 (r 2 (by decide) (by decide) (by decide) (by decide)) (r 14 (by decide) (by decide) (by decide) (by decide)) (r 16 (by decide) (by decide) (by decide) (by decide)) (fun j _ _ => r j (by omega) (by omega) (by omega) (by omega)) (fun j _ _ => r j (by omega) (by omega) (by omega) (by omega))
  · unfold F_X5_forget
    dsimp only
    rw [b1_some]
    have fin : ∀ u2 : mG, (∀ j, j ≠ 3 → (j < 10 ∨ 13 < j) → u2.1 j = (mu s4.1 35 1 (ci 0), s4.2).1 j) → C1 u2 := by
      intro u2 k
      have r : ∀ j, j ≠ 3 → (j < 10 ∨ 13 < j) → j ≠ 35 → u2.1 j = s4.1 j := fun j a b c => (k j a b).trans (mu_row c)
      exact C1_forget c4 (TS_row c4.1.1 (r 2 (by omega) (by omega) (by omega))) (r 14 (by omega) (by omega) (by omega)) (r 16 (by omega) (by omega) (by omega)) (fun j _ _ => r j (by omega) (by omega) (by omega)) (fun j _ _ => r j (by omega) (by omega) (by omega)) ((congrFun (k 35 (by omega) (by omega)) 1).trans mu_sameP) ((congrFun (k 35 (by omega) (by omega)) 2).trans (show mu s4.1 35 1 (ci 0) 35 2 = s4.1 35 2 from mu_cell (by omega)))
    refine pk_ite ?_ ?_
    · refine pk_b1 V_copyF (fun u2 h2 => pk_b1 (W_X2_forgetSeen (M := 8) (z := u2) (sub_and (by decide)) (by decide) KB_rfl) (fun u3 h3 => pk_some (fin u3 (fun j a b => ?_))))
      rw [h3 j ?_, h2 j (by omega) (by omega)]
      rw [show (8 : Nat) = 2 ^ 3 by rfl, Nat.testBit_two_pow]
      exact decide_eq_false (by omega)
    · exact pk_b1 V_copyF (fun u2 h2 => pk_some (fin u2 (fun j a b => h2 j (by omega) (by omega))))
theorem C1_undo {s : mG} (h : C1 s) : pk (F_X11_undo s) (fun τ => C1 τ.2 ∧ τ.2.1 2 3 = s.1 2 3 ∧ ∀ i, 4 < i → i ≠ 35 → τ.2.1 i = s.1 i) := by
  unfold F_X11_undo
  refine pk_b2 (C1_giveBack h) (fun v u hu => pk_pp (pk_some ⟨hu.1, hu.2.1 3, hu.2.2⟩))
/-! guest -/
theorem V_fsoF {hh : Nat} {a1 : Int32} {s : mG} : pk (F_X2_forgetSeenOf hh a1 s) (fun s' => ∀ i, i ≠ hh + 2 → s'.1 i = s.1 i) := by
  unfold F_X2_forgetSeenOf F_X2_forgetSeenOf_L2
  refine pk_whl (fun v => ∀ i, i ≠ hh + 2 → v.2.2.1 i = s.1 i) (fun _ _ => rfl) (fun v hv => ?_)
  obtain ⟨x1, x2, u⟩ := v
  have hv : ∀ i, i ≠ hh + 2 → u.1 i = s.1 i := hv
  unfold F_X2_forgetSeenOf_B2
  refine pk_ite (pk_some hv) (pk_b1 V_putF (fun u2 h2 => pk_some (show ∀ i, i ≠ hh + 2 → u2.1 i = s.1 i from fun i hi => (h2 i hi).trans (hv i hi))))
theorem V_guest {a1 a2 : Int32} {s : mG} (h : C1 s) : pk (F_X11_guest a1 a2 s) (fun τ => τ.1 = gdr a1 a2 (s.1 2 3) ∧ τ.2.1 2 3 = gdl a1 a2 (s.1 2 3) ∧ C1 τ.2 ∧ ∀ j, j ≠ 2 → j ≠ 3 → j ≠ 35 → τ.2.1 j = s.1 j) := by
  obtain ⟨w0, w1, n, hn, h3⟩ := h.1.1
  have no : (wi a1 (ci 0) (ci 3) = 0 ∨ wi a2 (ci 0) (c8 99) = 0 ∨ s.1 2 3 = c8 12) → pk (F_X11_guest_32 s) (fun τ => τ.1 = gdr a1 a2 (s.1 2 3) ∧ τ.2.1 2 3 = gdl a1 a2 (s.1 2 3) ∧ C1 τ.2 ∧ ∀ j, j ≠ 2 → j ≠ 3 → j ≠ 35 → τ.2.1 j = s.1 j) := fun k => pk_some ⟨by unfold gdr; rw [if_pos k], by unfold gdl; rw [if_pos k], h, fun _ _ _ _ => rfl⟩
  unfold F_X11_guest
  rw [V_within, b1_some]
  by_cases k1 : wi a1 (ci 0) (ci 3) = 0
  · rw [if_pos k1]; exact no (Or.inl k1)
  rw [if_neg k1, V_within, b1_some]
  by_cases k2 : wi a2 (ci 0) (c8 99) = 0
  · rw [if_pos k2]; exact no (Or.inr (Or.inl k2))
  rw [if_neg k2, V_full w0 h3 (by omega) (by decide), b1_some]
  by_cases k3 : n < 12
  · have kn : ¬ (wi a1 (ci 0) (ci 3) = 0 ∨ wi a2 (ci 0) (c8 99) = 0 ∨ s.1 2 3 = c8 12) := fun q => q.elim k1 (fun q => q.elim k2 (fun q => by
      rw [h3, show c8 12 = cn 12 by decide, cn_inj (by omega) (by decide)] at q
      omega))
    rw [if_pos k3, if_pos (by decide)]
    unfold F_X5_forget F_X2_addGuest
    dsimp only
    rw [b1_some]
    have v0 : (mu s.1 35 1 (ci 0), s.2).1 (1 + 1) 0 = cn 12 := (show mu s.1 35 1 (ci 0) 2 0 = s.1 2 0 from mu_cell (by omega)).trans w0
    have v3 : (mu s.1 35 1 (ci 0), s.2).1 (1 + 1) 3 = cn n := (show mu s.1 35 1 (ci 0) 2 3 = s.1 2 3 from mu_cell (by omega)).trans h3
    rw [V_add v0 v3 (by decide) k3, b2_some]
    have fin : pk (b1 (F_X10_put (1 + 1) (cn n) (ci 0) a1 (mu (mu s.1 35 1 (ci 0)) (1 + 1) 3 (cn (n + 1)), s.2)) fun s5 => b1 (F_X10_put (1 + 1) (cn n) (ci 1) a2 s5) fun s7 => b1 (F_X10_put (1 + 1) (cn n) (ci 2) (ci 0) s7) fun s9 => b1 (F_X10_put (1 + 1) (cn n) (ci 3) (ci (-1)) s9) fun s11 => b1 (F_X10_put (1 + 1) (cn n) (ci 4) (ci 0) s11) fun s13 => b1 (F_X2_forgetSeenOf 1 (cn n) s13) fun s15 => some (cn n, s15)) (fun τ => τ.1 = cn n ∧ ∀ j, j ≠ 3 → τ.2.1 j = mu (mu s.1 35 1 (ci 0)) 2 3 (cn (n + 1)) j) := by
      refine pk_b1 V_putF (fun u1 h1 => pk_b1 V_putF (fun u2 h2 => pk_b1 V_putF (fun u3 h3 => pk_b1 V_putF (fun u4 h4 => pk_b1 V_putF (fun u5 h5 => pk_b1 V_fsoF (fun u6 h6 => pk_some ⟨rfl, fun j hj => ?_⟩))))))
      show u6.1 j = _
      rw [h6 j hj, h5 j hj, h4 j hj, h3 j hj, h2 j hj, h1 j hj]
    refine pk_b2 fin (fun v u q => pk_some ?_)
    obtain ⟨q1, q2⟩ := q
    have q1 : v = cn n := q1
    have q2 : ∀ j, j ≠ 3 → u.1 j = mu (mu s.1 35 1 (ci 0)) 2 3 (cn (n + 1)) j := q2
    have r : ∀ j, j ≠ 2 → j ≠ 3 → j ≠ 35 → u.1 j = s.1 j := fun j a b c => by rw [q2 j b, mu_row a, mu_row c]
    refine ⟨?_, ?_, C1_forget h ⟨?_, ?_, n + 1, by omega, ?_⟩ (r 14 (by decide) (by decide) (by decide)) (r 16 (by decide) (by decide) (by decide)) (fun j _ _ => r j (by omega) (by omega) (by omega)) (fun j _ _ => r j (by omega) (by omega) (by omega)) ?_ ?_, r⟩
    · unfold gdr; rw [if_neg kn]; exact q1.trans h3.symm
    · unfold gdl; rw [if_neg kn]
      show u.1 2 3 = _
      rw [q2 2 (by decide), mu_same, h3, cnu (by omega)]
    · rw [q2 2 (by decide), mu_cell (by omega), mu_cell (by omega)]; exact w0
    · rw [q2 2 (by decide), mu_cell (by omega), mu_cell (by omega)]; exact w1
    · rw [q2 2 (by decide), mu_same]
    · rw [q2 35 (by decide), mu_cell (by omega), mu_same]
    · rw [q2 35 (by decide), mu_cell (by omega), mu_cell (by omega)]
  · rw [if_neg k3, if_neg (by decide)]
    refine no (Or.inr (Or.inr ?_))
    rw [h3, show n = 12 by omega]; decide
theorem P_guest {a1 a2 : Int32} {s : mG} (h : JL s) : ok (F_X11_guest a1 a2 s) (fun τ => ok (F_X12_guest a1 a2 τ.2) (fun υ => JL υ.2 ∧ τ.1 = υ.1)) := by
  refine ok_k (T_X11_guest h.1) (V_guest h.2.2.1) (fun τ q k => ?_)
  obtain ⟨k1, k2, k3, k4⟩ := k
  have qm : IM τ.2 := IM_rows q.2.1 h.2.1
  refine ok_kk (T_X12_guest qm) (K_X12_guest kv0) (W_X12_guest (M := 928455029464035206174343168) (z := τ.2) sub_rfl KB_rfl) (fun υ p e4 w => ?_)
  have e4 : υ.2.1 88 4 = τ.2.1 88 4 := e4
  have e90 : υ.2.1 90 = τ.2.1 90 := w 90 (by decide +kernel)
  obtain ⟨p1, p2, p3, p4⟩ := p
  have r88 : τ.2.1 88 = s.1 88 := q.2.1 88 (by decide)
  have r89 : τ.2.1 89 = s.1 89 := q.2.1 89 (by decide)
  have r90 : τ.2.1 90 = s.1 90 := q.2.1 90 (by decide)
  have hR := h.2.2.2
  unfold R1 R1h at hR
  obtain ⟨⟨z1, z2, z3⟩, z4, z5, z6⟩ := hR
  refine ⟨⟨IC_rows p1.2.1 q.1, p1.1, C1_rows p1.2.1 k3, ?_⟩, ?_⟩
  · unfold R1 R1h
    rw [p1.2.1 2 (by decide), p1.2.1 14 (by decide), p1.2.1 16 (by decide), p1.2.1 0 (by decide), p1.2.1 19 (by decide), p1.2.1 31 (by decide), p1.2.1 33 (by decide), e4, e90, p3, p4 118 (by unfold SK; omega) (by omega), p4 1049 (by unfold SK; omega) (by omega), k2, k4 14 (by omega) (by omega) (by omega), k4 16 (by omega) (by omega) (by omega), k4 0 (by omega) (by omega) (by omega), k4 19 (by omega) (by omega) (by omega), k4 31 (by omega) (by omega) (by omega), k4 33 (by omega) (by omega) (by omega), r88, r89, r90]
    exact ⟨⟨by rw [z1], z2, z3⟩, z4, z5, z6⟩
  · rw [k1, p2, r89, z1]
end
end
/-! 59.z3.l1 -/
section
noncomputable section
/-! CALLERS AND ROOMS -/
theorem V_caller {a1 a2 a3 : Int32} {s : mG} (h : C1 s) : pk (F_X11_caller a1 a2 a3 s) (fun τ => τ.1 = car a1 a2 a3 (s.1 2 3) (s.1 16 3) ∧ τ.2.1 16 3 = cal a1 a2 a3 (s.1 2 3) (s.1 16 3) ∧ C1 τ.2 ∧ ∀ j, j ≠ 16 → j ≠ 17 → τ.2.1 j = s.1 j) := by
  obtain ⟨w0, w1, n, hn, h3⟩ := h.1.2.2
  have cs : ∀ (u : mG) (m : Nat), m ≤ 8 → (∀ j, j ≠ 3 → u.1 16 j = s.1 16 j) → u.1 16 3 = cn m → (∀ j, j ≠ 16 → j ≠ 17 → u.1 j = s.1 j) → C1 u := by
    intro u m hm u1 u2 u3
    obtain ⟨⟨a1, a2, a3⟩, ⟨b1, b2, b3⟩, cc, ⟨c, t, hc, ht, p1, p2, p3⟩⟩ := h
    refine ⟨⟨TS_row a1 (u3 2 (by omega) (by omega)), TS_row a2 (u3 14 (by omega) (by omega)), TS_cells a3 u1 hm u2⟩, ⟨TS_row b1 (u3 19 (by omega) (by omega)), TS_row b2 (u3 31 (by omega) (by omega)), TS_row b3 (u3 33 (by omega) (by omega))⟩, fun i hi => TS_row (cc i hi) (u3 _ (by omega) (by omega)), c, t, hc, ht, ?_, ?_, fun i hi hl => ?_⟩
    · rw [u3 35 (by omega) (by omega)]; exact p1
    · rw [u3 35 (by omega) (by omega)]; exact p2
    · rw [u3 _ (by omega) (by omega), u3 2 (by omega) (by omega)]; exact p3 i hi hl
  unfold F_X11_caller F_X11_caller_63
  by_cases c0 : a1 = ci (-1)
  · rw [if_pos c0]
    unfold F_X10_clear
    dsimp only
    rw [b1_some]
    exact pk_some ⟨by unfold car; rw [if_pos c0], by show mu s.1 16 3 (ci 0) 16 3 = _; rw [mu_same]; unfold cal; rw [if_pos c0], cs (mu s.1 16 3 (ci 0), s.2) 0 (by omega) (fun j hj => mu_cellP (Or.inr hj)) (by show mu s.1 16 3 (ci 0) 16 3 = _; rw [mu_same]; rfl) (fun j h1 _ => mu_rowP h1), fun j h1 _ => mu_rowP h1⟩
  rw [if_neg c0]
  have no : (ig a1 (s.1 2 3) = 0 ∨ wi a2 (ci 0) (c16 999) = 0 ∨ wi a3 (ci 0) (c16 999) = 0 ∨ s.1 16 3 = c8 8) → pk (some ((ci (-1)), s)) (fun τ => τ.1 = car a1 a2 a3 (s.1 2 3) (s.1 16 3) ∧ τ.2.1 16 3 = cal a1 a2 a3 (s.1 2 3) (s.1 16 3) ∧ C1 τ.2 ∧ ∀ j, j ≠ 16 → j ≠ 17 → τ.2.1 j = s.1 j) := fun k => pk_some ⟨by unfold car; rw [if_neg c0, if_pos k], by unfold cal; rw [if_neg c0, if_pos k], h, fun _ _ _ => rfl⟩
  rw [V_isGuest, b1_some]
  by_cases k0 : ig a1 (s.1 (1 + 1) 3) = 0
  · rw [if_pos k0]; exact no (Or.inl k0)
  rw [if_neg k0, V_within, b1_some]
  by_cases k1 : wi a2 (ci 0) (c16 999) = 0
  · rw [if_pos k1]; exact no (Or.inr (Or.inl k1))
  rw [if_neg k1, V_within, b1_some]
  by_cases k2 : wi a3 (ci 0) (c16 999) = 0
  · rw [if_pos k2]; exact no (Or.inr (Or.inr (Or.inl k2)))
  rw [if_neg k2, V_full w0 h3 (by omega) (by decide), b1_some]
  by_cases kf : n < 8
  · have hk : ¬ s.1 16 3 = c8 8 := fun q => by
      rw [h3, show c8 8 = cn 8 by decide, cn_inj (by omega) (by decide)] at q
      omega
    have kn : ¬ (ig a1 (s.1 2 3) = 0 ∨ wi a2 (ci 0) (c16 999) = 0 ∨ wi a3 (ci 0) (c16 999) = 0 ∨ s.1 16 3 = c8 8) := (fun q => q.elim k0 (fun q => q.elim k1 (fun q => q.elim k2 (fun q => absurd q hk))))
    rw [if_pos kf, if_pos (by decide), V_add w0 h3 (by decide) kf, b2_some]
    refine pk_b1 V_putF (fun u0 g0 => pk_b1 V_putF (fun u1 g1 => pk_b1 V_putF (fun u2 g2 => pk_some ?_)))
    have r : ∀ j, j ≠ 17 → u2.1 j = mu s.1 16 3 (cn (n + 1)) j := fun j hj => by rw [g2 j hj, g1 j hj, g0 j hj]
    have e3 : u2.1 16 3 = cn (n + 1) := by rw [r 16 (by decide), mu_same]
    have r2 : ∀ j, j ≠ 16 → j ≠ 17 → u2.1 j = s.1 j := fun j a b => by rw [r j b, mu_row a]
    refine ⟨?_, ?_, cs _ (n + 1) (by omega) (fun j hj => by rw [r 16 (by decide), mu_cell (Or.inr hj)]) e3 r2, r2⟩
    · unfold car; rw [if_neg c0, if_neg kn, h3, cnu (by omega)]; exact e3
    · unfold cal; rw [if_neg c0, if_neg kn, h3, cnu (by omega)]; exact e3
  · rw [if_neg kf, if_neg (by decide)]
    refine no (Or.inr (Or.inr (Or.inr (?_))))
    rw [h3, show n = 8 by omega]; decide
theorem P_caller {a1 a2 a3 : Int32} {s : mG} (h : JL s) : ok (F_X11_caller a1 a2 a3 s) (fun τ => ok (F_X12_caller a1 a2 a3 τ.2) (fun υ => JL υ.2 ∧ τ.1 = υ.1)) := by
  refine ok_k (T_X11_caller h.1) (V_caller h.2.2.1) (fun τ q k => ?_)
  obtain ⟨k1, k2, k3, k4⟩ := k
  have qm : IM τ.2 := IM_rows q.2.1 h.2.1
  refine ok_kk (T_X12_caller qm) (K_X12_caller kv0) (W_X12_caller (M := 618970019642690137449562112) (z := τ.2) sub_rfl KB_rfl) (fun υ p e4 w => ?_)
  have e4 : υ.2.1 88 4 = τ.2.1 88 4 := e4
  have e90 : υ.2.1 90 = τ.2.1 90 := w 90 (by decide +kernel)
  obtain ⟨p1, p2, p3, p4⟩ := p
  have r88 : τ.2.1 88 = s.1 88 := q.2.1 88 (by decide)
  have r89 : τ.2.1 89 = s.1 89 := q.2.1 89 (by decide)
  have r90 : τ.2.1 90 = s.1 90 := q.2.1 90 (by decide)
  have hR := h.2.2.2
  unfold R1 R1h at hR
  obtain ⟨⟨z1, z2, z3⟩, z4, z5, z6⟩ := hR
  refine ⟨⟨IC_rows p1.2.1 q.1, p1.1, C1_rows p1.2.1 k3, ?_⟩, ?_⟩
  · unfold R1 R1h
    rw [p1.2.1 2 (by decide), p1.2.1 14 (by decide), p1.2.1 16 (by decide), p1.2.1 0 (by decide), p1.2.1 19 (by decide), p1.2.1 31 (by decide), p1.2.1 33 (by decide), e4, e90, p3, p4 112 (by unfold SK; omega) (by omega) (by omega), p4 118 (by unfold SK; omega) (by omega) (by omega), k2, k4 2 (by omega) (by omega), k4 14 (by omega) (by omega), k4 0 (by omega) (by omega), k4 19 (by omega) (by omega), k4 31 (by omega) (by omega), k4 33 (by omega) (by omega), r88, r89, r90]
    exact ⟨⟨z1, z2, by rw [z1, z3]⟩, z4, z5, z6⟩
  · rw [k1, p2, r89, z1, z3]
theorem V_room {a1 a2 a3 a4 : Int32} {s : mG} (h : C1 s) : pk (F_X11_room a1 a2 a3 a4 s) (fun τ => τ.1 = ror a1 a2 a3 a4 (s.1 2 3) (s.1 14 3) ∧ τ.2.1 14 3 = rol a1 a2 a3 a4 (s.1 2 3) (s.1 14 3) ∧ C1 τ.2 ∧ ∀ j, j ≠ 14 → j ≠ 15 → τ.2.1 j = s.1 j) := by
  obtain ⟨w0, w1, n, hn, h3⟩ := h.1.2.1
  have cs : ∀ (u : mG) (m : Nat), m ≤ 8 → (∀ j, j ≠ 3 → u.1 14 j = s.1 14 j) → u.1 14 3 = cn m → (∀ j, j ≠ 14 → j ≠ 15 → u.1 j = s.1 j) → C1 u := by
    intro u m hm u1 u2 u3
    obtain ⟨⟨a1, a2, a3⟩, ⟨b1, b2, b3⟩, cc, ⟨c, t, hc, ht, p1, p2, p3⟩⟩ := h
    refine ⟨⟨TS_row a1 (u3 2 (by omega) (by omega)), TS_cells a2 u1 hm u2, TS_row a3 (u3 16 (by omega) (by omega))⟩, ⟨TS_row b1 (u3 19 (by omega) (by omega)), TS_row b2 (u3 31 (by omega) (by omega)), TS_row b3 (u3 33 (by omega) (by omega))⟩, fun i hi => TS_row (cc i hi) (u3 _ (by omega) (by omega)), c, t, hc, ht, ?_, ?_, fun i hi hl => ?_⟩
    · rw [u3 35 (by omega) (by omega)]; exact p1
    · rw [u3 35 (by omega) (by omega)]; exact p2
    · rw [u3 _ (by omega) (by omega), u3 2 (by omega) (by omega)]; exact p3 i hi hl
  unfold F_X11_room F_X11_room_73
  by_cases c0 : a1 = ci (-1)
  · rw [if_pos c0]
    unfold F_X10_clear
    dsimp only
    rw [b1_some]
    exact pk_some ⟨by unfold ror; rw [if_pos c0], by show mu s.1 14 3 (ci 0) 14 3 = _; rw [mu_same]; unfold rol; rw [if_pos c0], cs (mu s.1 14 3 (ci 0), s.2) 0 (by omega) (fun j hj => mu_cellP (Or.inr hj)) (by show mu s.1 14 3 (ci 0) 14 3 = _; rw [mu_same]; rfl) (fun j h1 _ => mu_rowP h1), fun j h1 _ => mu_rowP h1⟩
  rw [if_neg c0]
  have no : (ig a1 (s.1 2 3) = 0 ∨ wi a2 (ci 1) (c8 99) = 0 ∨ wi a3 (ci 1) (c16 999) = 0 ∨ wi a4 (ci 0) (c8 99) = 0 ∨ s.1 14 3 = c8 8) → pk (some ((ci (-1)), s)) (fun τ => τ.1 = ror a1 a2 a3 a4 (s.1 2 3) (s.1 14 3) ∧ τ.2.1 14 3 = rol a1 a2 a3 a4 (s.1 2 3) (s.1 14 3) ∧ C1 τ.2 ∧ ∀ j, j ≠ 14 → j ≠ 15 → τ.2.1 j = s.1 j) := fun k => pk_some ⟨by unfold ror; rw [if_neg c0, if_pos k], by unfold rol; rw [if_neg c0, if_pos k], h, fun _ _ _ => rfl⟩
  rw [V_isGuest, b1_some]
  by_cases k0 : ig a1 (s.1 (1 + 1) 3) = 0
  · rw [if_pos k0]; exact no (Or.inl k0)
  rw [if_neg k0, V_within, b1_some]
  by_cases k1 : wi a2 (ci 1) (c8 99) = 0
  · rw [if_pos k1]; exact no (Or.inr (Or.inl k1))
  rw [if_neg k1, V_within, b1_some]
  by_cases k2 : wi a3 (ci 1) (c16 999) = 0
  · rw [if_pos k2]; exact no (Or.inr (Or.inr (Or.inl k2)))
  rw [if_neg k2, V_within, b1_some]
  by_cases k3 : wi a4 (ci 0) (c8 99) = 0
  · rw [if_pos k3]; exact no (Or.inr (Or.inr (Or.inr (Or.inl k3))))
  rw [if_neg k3, V_full w0 h3 (by omega) (by decide), b1_some]
  by_cases kf : n < 8
  · have hk : ¬ s.1 14 3 = c8 8 := fun q => by
      rw [h3, show c8 8 = cn 8 by decide, cn_inj (by omega) (by decide)] at q
      omega
    have kn : ¬ (ig a1 (s.1 2 3) = 0 ∨ wi a2 (ci 1) (c8 99) = 0 ∨ wi a3 (ci 1) (c16 999) = 0 ∨ wi a4 (ci 0) (c8 99) = 0 ∨ s.1 14 3 = c8 8) := (fun q => q.elim k0 (fun q => q.elim k1 (fun q => q.elim k2 (fun q => q.elim k3 (fun q => absurd q hk)))))
    rw [if_pos kf, if_pos (by decide), V_add w0 h3 (by decide) kf, b2_some]
    refine pk_b1 V_putF (fun u0 g0 => pk_b1 V_putF (fun u1 g1 => pk_b1 V_putF (fun u2 g2 => pk_b1 V_putF (fun u3 g3 => pk_some ?_))))
    have r : ∀ j, j ≠ 15 → u3.1 j = mu s.1 14 3 (cn (n + 1)) j := fun j hj => by rw [g3 j hj, g2 j hj, g1 j hj, g0 j hj]
    have e3 : u3.1 14 3 = cn (n + 1) := by rw [r 14 (by decide), mu_same]
    have r2 : ∀ j, j ≠ 14 → j ≠ 15 → u3.1 j = s.1 j := fun j a b => by rw [r j b, mu_row a]
    refine ⟨?_, ?_, cs _ (n + 1) (by omega) (fun j hj => by rw [r 14 (by decide), mu_cell (Or.inr hj)]) e3 r2, r2⟩
    · unfold ror; rw [if_neg c0, if_neg kn, h3, cnu (by omega)]; exact e3
    · unfold rol; rw [if_neg c0, if_neg kn, h3, cnu (by omega)]; exact e3
  · rw [if_neg kf, if_neg (by decide)]
    refine no (Or.inr (Or.inr (Or.inr (Or.inr (?_)))))
    rw [h3, show n = 8 by omega]; decide
theorem P_room {a1 a2 a3 a4 : Int32} {s : mG} (h : JL s) : ok (F_X11_room a1 a2 a3 a4 s) (fun τ => ok (F_X12_room a1 a2 a3 a4 τ.2) (fun υ => JL υ.2 ∧ τ.1 = υ.1)) := by
  refine ok_k (T_X11_room h.1) (V_room h.2.2.1) (fun τ q k => ?_)
  obtain ⟨k1, k2, k3, k4⟩ := k
  have qm : IM τ.2 := IM_rows q.2.1 h.2.1
  refine ok_kk (T_X12_room qm) (K_X12_room kv0) (W_X12_room (M := 618970019642690137449562112) (z := τ.2) sub_rfl KB_rfl) (fun υ p e4 w => ?_)
  have e4 : υ.2.1 88 4 = τ.2.1 88 4 := e4
  have e90 : υ.2.1 90 = τ.2.1 90 := w 90 (by decide +kernel)
  obtain ⟨p1, p2, p3, p4⟩ := p
  have r88 : τ.2.1 88 = s.1 88 := q.2.1 88 (by decide)
  have r89 : τ.2.1 89 = s.1 89 := q.2.1 89 (by decide)
  have r90 : τ.2.1 90 = s.1 90 := q.2.1 90 (by decide)
  have hR := h.2.2.2
  unfold R1 R1h at hR
  obtain ⟨⟨z1, z2, z3⟩, z4, z5, z6⟩ := hR
  refine ⟨⟨IC_rows p1.2.1 q.1, p1.1, C1_rows p1.2.1 k3, ?_⟩, ?_⟩
  · unfold R1 R1h
    rw [p1.2.1 2 (by decide), p1.2.1 14 (by decide), p1.2.1 16 (by decide), p1.2.1 0 (by decide), p1.2.1 19 (by decide), p1.2.1 31 (by decide), p1.2.1 33 (by decide), e4, e90, p3, p4 112 (by unfold SK; omega) (by omega) (by omega), p4 1049 (by unfold SK; omega) (by omega) (by omega), k2, k4 2 (by omega) (by omega), k4 16 (by omega) (by omega), k4 0 (by omega) (by omega), k4 19 (by omega) (by omega), k4 31 (by omega) (by omega), k4 33 (by omega) (by omega), r88, r89, r90]
    exact ⟨⟨z1, by rw [z1, z2], z3⟩, z4, z5, z6⟩
  · rw [k1, p2, r89, z1, z2]
/-! the image -/
theorem V_X11_give {s : mG} (h : C1 s) : pk (b1 (F_X2_copyFrom 1 18 s) fun s4 => b1 (F_X5_forget s4) fun s6 => some ((ci 1), s6)) (fun τ => τ.1 = ci 1 ∧ C1 τ.2 ∧ τ.2.1 0 = s.1 0 ∧ τ.2.1 2 3 = s.1 19 3 ∧ τ.2.1 14 3 = s.1 31 3 ∧ τ.2.1 16 3 = s.1 33 3 ∧ ∀ j, 19 ≤ j → j ≤ 33 → τ.2.1 j = s.1 j) := by
  have h0 := h
  obtain ⟨⟨a1, a2, a3⟩, ⟨⟨_, _, n1, b1, b1'⟩, ⟨_, _, n2, b2, b2'⟩, ⟨_, _, n3, b3, b3'⟩⟩, cc, ⟨c, t, hc, ht, p1, p2, p3⟩⟩ := h
  refine pk_b1 (V_house (h := 1) (a := 18) (ng := n1) (nr := n2) (nc := n3) (by omega) ⟨by decide +kernel, by decide +kernel⟩ ⟨by decide +kernel, by decide +kernel⟩ ⟨by decide +kernel, by decide +kernel⟩ a1 a2 a3 b1' b2' b3' b1 b2 b3) (fun u hu => ?_)
  obtain ⟨q1, q2, q3, q4, q5, q6, q7, q8⟩ := hu
  unfold F_X5_forget
  dsimp only
  rw [b1_some]
  have r : ∀ j, j ≠ 35 → mu u.1 35 1 (ci 0) j = u.1 j := fun j hj => mu_row hj
  have e351 : mu u.1 35 1 (ci 0) 35 1 = ci 0 := mu_same
  have e352 : mu u.1 35 1 (ci 0) 35 2 = s.1 35 2 := (mu_cell (by omega)).trans (congrFun (q1 35 (by omega)) 2)
  generalize mu u.1 35 1 (ci 0) = D at *
  have rr : ∀ j, (j < 1 ∨ 17 < j) → j ≠ 35 → D j = s.1 j := fun j h1 h2 => (r j h2).trans (q1 j (by omega))
  refine pk_some ⟨rfl, ⟨⟨TS_cells a1 (fun j hj => (congrFun (r 2 (by omega)) j).trans (q2 j hj)) b1 ((congrFun (r 2 (by omega)) 3).trans (q3.trans b1')), TS_cells a2 (fun j hj => (congrFun (r 14 (by omega)) j).trans (q4 j hj)) b2 ((congrFun (r 14 (by omega)) 3).trans (q5.trans b2')), TS_cells a3 (fun j hj => (congrFun (r 16 (by omega)) j).trans (q6 j hj)) b3 ((congrFun (r 16 (by omega)) 3).trans (q7.trans b3'))⟩, ⟨TS_row h0.2.1.1 (rr 19 (by omega) (by omega)), TS_row h0.2.1.2.1 (rr 31 (by omega) (by omega)), TS_row h0.2.1.2.2 (rr 33 (by omega) (by omega))⟩, fun i hi => TS_row (cc i hi) (rr _ (by omega) (by omega)), 0, t, by omega, ht, e351.trans rfl, e352.trans p2, fun i hi hl => absurd hl (by omega)⟩, rr 0 (by omega) (by omega), (congrFun (r 2 (by omega)) 3).trans q3, (congrFun (r 14 (by omega)) 3).trans q5, (congrFun (r 16 (by omega)) 3).trans q7, fun j h1 h2 => rr j (by omega) (by omega)⟩
theorem V_X11_take {s : mG} (h : C1 s) : pk (b1 (F_X2_copyFrom 18 1 s) fun s8 => let s9 : mG := (mu s8.1 0 2 (ci 1), s8.2); some ((ci 1), s9)) (fun τ => τ.1 = ci 1 ∧ C1 τ.2 ∧ τ.2.1 0 2 = ci 1 ∧ τ.2.1 19 3 = s.1 2 3 ∧ τ.2.1 31 3 = s.1 14 3 ∧ τ.2.1 33 3 = s.1 16 3 ∧ ∀ j, 1 ≤ j → j ≤ 17 → τ.2.1 j = s.1 j) := by
  have h0 := h
  obtain ⟨⟨⟨_, _, n1, b1, b1'⟩, ⟨_, _, n2, b2, b2'⟩, ⟨_, _, n3, b3, b3'⟩⟩, ⟨a1, a2, a3⟩, cc, ⟨c, t, hc, ht, p1, p2, p3⟩⟩ := h
  refine pk_b1 (V_house (h := 18) (a := 1) (ng := n1) (nr := n2) (nc := n3) (by omega) ⟨by decide +kernel, by decide +kernel⟩ ⟨by decide +kernel, by decide +kernel⟩ ⟨by decide +kernel, by decide +kernel⟩ a1 a2 a3 b1' b2' b3' b1 b2 b3) (fun u hu => ?_)
  obtain ⟨q1, q2, q3, q4, q5, q6, q7, q8⟩ := hu
  dsimp only
  have r : ∀ j, j ≠ 0 → mu u.1 0 2 (ci 1) j = u.1 j := fun j hj => mu_row hj
  have e0 : mu u.1 0 2 (ci 1) 0 2 = ci 1 := mu_same
  generalize mu u.1 0 2 (ci 1) = D at *
  have rr : ∀ j, (j < 18 ∨ 34 < j) → j ≠ 0 → D j = s.1 j := fun j h1 h2 => (r j h2).trans (q1 j (by omega))
  refine pk_some ⟨rfl, ⟨⟨TS_row h0.1.1 (rr 2 (by omega) (by omega)), TS_row h0.1.2.1 (rr 14 (by omega) (by omega)), TS_row h0.1.2.2 (rr 16 (by omega) (by omega))⟩, ⟨TS_cells a1 (fun j hj => (congrFun (r 19 (by omega)) j).trans (q2 j hj)) b1 ((congrFun (r 19 (by omega)) 3).trans (q3.trans b1')), TS_cells a2 (fun j hj => (congrFun (r 31 (by omega)) j).trans (q4 j hj)) b2 ((congrFun (r 31 (by omega)) 3).trans (q5.trans b2')), TS_cells a3 (fun j hj => (congrFun (r 33 (by omega)) j).trans (q6 j hj)) b3 ((congrFun (r 33 (by omega)) 3).trans (q7.trans b3'))⟩, fun i hi => TS_row (cc i hi) (rr _ (by omega) (by omega)), c, t, hc, ht, ?_, ?_, fun i hi hl => ?_⟩, e0, (congrFun (r 19 (by omega)) 3).trans q3, (congrFun (r 31 (by omega)) 3).trans q5, (congrFun (r 33 (by omega)) 3).trans q7, fun j h1 h2 => rr j (by omega) (by omega)⟩
  · exact (congrFun (rr 35 (by omega) (by omega)) 1).trans p1
  · exact (congrFun (rr 35 (by omega) (by omega)) 2).trans p2
  · show D _ 3 = D 2 3
    rw [rr _ (by omega) (by omega), rr 2 (by omega) (by omega)]; exact p3 i hi hl
theorem V_X12_image_67 {s : mG} : F_X12_image_67 s = some (ci 1, (mu s.1 88 4 (ci 1), s.2)) := rfl
theorem c1894 : c16 1894 = cn 1894 := by decide
theorem V_X12_give {s : mG} : pk (F_X12_image_13 (ci 0) s) (fun τ => τ.1 = ci 1 ∧ τ.2.1 88 4 = ci 1 ∧ τ.2.1 90 = s.1 90 ∧ ∀ k, k < 1894 → τ.2.1 89 k = s.1 90 k) := by
  unfold F_X12_image_13 F_X12_image_L15
  refine pk_whl (fun v => v.1 = ci 0 ∧ v.2.2.1 90 = s.1 90 ∧ ∃ k, v.2.1 = cn k ∧ k ≤ 1894 ∧ ∀ j, j < k → v.2.2.1 89 j = s.1 90 j) ⟨rfl, rfl, 0, rfl, by omega, fun j hj => absurd hj (by omega)⟩ (fun v hv => ?_)
  obtain ⟨x1, x2, u⟩ := v
  obtain ⟨g1, g2, k, g3, g4, g5⟩ := hv
  have g1 : x1 = ci 0 := g1
  have g2 : u.1 90 = s.1 90 := g2
  have g3 : x2 = cn k := g3
  have g5 : ∀ j, j < k → u.1 89 j = s.1 90 j := g5
  subst g1; subst g3
  unfold F_X12_image_B15 F_X12_image_53 F_X12_forgets
  rw [c1894]
  by_cases hk : 1894 ≤ k
  · rw [if_pos ((cn_le (by omega) (by omega)).mpr hk), if_pos (show (ci 0 : Int32) = 0 by decide)]
    dsimp only
    rw [b1_some, V_X12_image_67, b1_some]
    refine pk_some (show _ ∧ _ ∧ _ ∧ _ from ⟨rfl, mu_sameP, ?_, fun j hj => ?_⟩)
    · show mu (mu u.1 88 3 (ci 0)) 88 4 (ci 1) 90 = _
      rw [mu_row (by omega), mu_row (by omega)]; exact g2
    · show mu (mu u.1 88 3 (ci 0)) 88 4 (ci 1) 89 j = _
      rw [mu_row (by omega), mu_row (by omega)]; exact g5 j (by omega)
  · rw [if_neg (fun h => hk ((cn_le (by omega) (by omega)).mp h)), if_pos (show (ci 0 : Int32) = 0 by decide), if_neg (cn_ix (by omega) (by omega)), if_neg (cn_ix (by omega) (by omega)), cn_nat (by omega), cnu (by omega)]
    refine pk_some (show _ ∧ _ ∧ _ from ⟨rfl, ?_, k + 1, rfl, by omega, fun j hj => ?_⟩)
    · show mu u.1 89 k (u.1 90 k) 90 = _
      rw [mu_row (by omega)]; exact g2
    · show mu u.1 89 k (u.1 90 k) 89 j = _
      by_cases hjk : j = k
      · subst hjk; rw [mu_same]; exact congrFun g2 j
      · rw [mu_cell (Or.inr hjk)]; exact g5 j (by omega)
theorem V_X12_take {a1 : Int32} {s : mG} (ha : ¬ a1 = 0) : pk (F_X12_image_13 a1 s) (fun τ => τ.1 = ci 1 ∧ τ.2.1 88 4 = ci 1 ∧ τ.2.1 89 = s.1 89 ∧ ∀ k, k < 1894 → τ.2.1 90 k = s.1 89 k) := by
  unfold F_X12_image_13 F_X12_image_L15
  refine pk_whl (fun v => v.1 = a1 ∧ v.2.2.1 89 = s.1 89 ∧ ∃ k, v.2.1 = cn k ∧ k ≤ 1894 ∧ ∀ j, j < k → v.2.2.1 90 j = s.1 89 j) ⟨rfl, rfl, 0, rfl, by omega, fun j hj => absurd hj (by omega)⟩ (fun v hv => ?_)
  obtain ⟨x1, x2, u⟩ := v
  obtain ⟨g1, g2, k, g3, g4, g5⟩ := hv
  have g1 : x1 = a1 := g1
  have g2 : u.1 89 = s.1 89 := g2
  have g3 : x2 = cn k := g3
  have g5 : ∀ j, j < k → u.1 90 j = s.1 89 j := g5
  subst g1; subst g3
  unfold F_X12_image_B15 F_X12_image_53
  rw [c1894]
  by_cases hk : 1894 ≤ k
  · rw [if_pos ((cn_le (by omega) (by omega)).mpr hk), if_neg ha]
    rw [V_X12_image_67, b1_some]
    refine pk_some (show _ ∧ _ ∧ _ ∧ _ from ⟨rfl, mu_sameP, ?_, fun j hj => ?_⟩)
    · show mu u.1 88 4 (ci 1) 89 = _
      rw [mu_row (by omega)]; exact g2
    · show mu u.1 88 4 (ci 1) 90 j = _
      rw [mu_row (by omega)]; exact g5 j (by omega)
  · rw [if_neg (fun h => hk ((cn_le (by omega) (by omega)).mp h)), if_neg ha, if_neg (cn_ix (by omega) (by omega)), if_neg (cn_ix (by omega) (by omega)), cn_nat (by omega), cnu (by omega)]
    refine pk_some (show _ ∧ _ ∧ _ from ⟨rfl, ?_, k + 1, rfl, by omega, fun j hj => ?_⟩)
    · show mu u.1 90 k (u.1 89 k) 89 = _
      rw [mu_row (by omega)]; exact g2
    · show mu u.1 90 k (u.1 89 k) 90 j = _
      by_cases hjk : j = k
      · subst hjk; rw [mu_same]; exact congrFun g2 j
      · rw [mu_cell (Or.inr hjk)]; exact g5 j (by omega)
theorem P_image {a1 : Int32} {s : mG} (ha : a1 = ci 0 ∨ a1 = ci 1) (h : JL s) : ok (F_X11_image a1 s) (fun τ => ok (F_X12_image a1 τ.2) (fun υ => JL υ.2 ∧ τ.1 = υ.1)) := by
  have hR := h.2.2.2
  unfold R1 R1h at hR
  obtain ⟨⟨z1, z2, z3⟩, z4, z5, z6⟩ := hR
  rcases ha with ha | ha
  · subst ha
    by_cases k0 : s.1 0 2 = 0
    · have e11 : F_X11_image (ci 0) s = some (ci 0, s) := by
        unfold F_X11_image
        rw [if_pos (by decide), if_pos k0]
      have e12 : F_X12_image (ci 0) s = some (ci 0, s) := by
        unfold F_X12_image
        rw [if_pos (by decide), if_pos (z5.symm.trans k0)]
      exact ⟨_, e11, _, e12, h, rfl⟩
    · have k4 : ¬ s.1 88 4 = 0 := fun e => k0 (z5.trans e)
      have hv : pk (F_X11_image (ci 0) s) (fun τ => τ.1 = ci 1 ∧ C1 τ.2 ∧ τ.2.1 0 = s.1 0 ∧ τ.2.1 2 3 = s.1 19 3 ∧ τ.2.1 14 3 = s.1 31 3 ∧ τ.2.1 16 3 = s.1 33 3 ∧ ∀ j, 19 ≤ j → j ≤ 33 → τ.2.1 j = s.1 j) := by
        unfold F_X11_image
        rw [if_pos (by decide), if_neg k0]
        exact V_X11_give h.2.2.1
      refine ok_k (T_X11_image h.1) hv (fun τ q k => ?_)
      obtain ⟨k1, k2, k3, k5, k6, k7, k8⟩ := k
      have r88 : τ.2.1 88 = s.1 88 := q.2.2.1 88 (by decide)
      have r89 : τ.2.1 89 = s.1 89 := q.2.2.1 89 (by decide)
      have r90 : τ.2.1 90 = s.1 90 := q.2.2.1 90 (by decide)
      have hv2 : pk (F_X12_image (ci 0) τ.2) (fun υ => υ.1 = ci 1 ∧ υ.2.1 88 4 = ci 1 ∧ υ.2.1 90 = τ.2.1 90 ∧ ∀ k, k < 1894 → υ.2.1 89 k = τ.2.1 90 k) := by
        unfold F_X12_image
        rw [if_pos (by decide), if_neg (by rw [r88]; exact k4)]
        exact V_X12_give
      refine ok_k (T_X12_image (IM_rows q.2.2.1 h.2.1)) hv2 (fun υ p m => ?_)
      obtain ⟨m1, m2, m3, m4⟩ := m
      have p := p.2
      obtain ⟨y1, y2, y3⟩ := z6 k4
      have e41 : s.1 88 4 = ci 1 := z4.resolve_left k4
      refine ⟨⟨IC_rows p.2.1 q.2.1, p.1, C1_rows p.2.1 k2, ?_⟩, k1.trans m1.symm⟩
      unfold R1 R1h
      rw [p.2.1 2 (by decide), p.2.1 14 (by decide), p.2.1 16 (by decide), p.2.1 0 (by decide), p.2.1 19 (by decide), p.2.1 31 (by decide), p.2.1 33 (by decide), m2, m3, m4 112 (by decide), m4 118 (by decide), m4 1049 (by decide), k5, k6, k7, k3, k8 19 (by decide) (by decide), k8 31 (by decide) (by decide), k8 33 (by decide) (by decide), r90]
      exact ⟨⟨y1, y2, y3⟩, pb1, z5.trans e41, fun _ => ⟨y1, y2, y3⟩⟩
  · subst ha
    have n0 : ¬ ci 1 = 0 := by decide
    have hv : pk (F_X11_image (ci 1) s) (fun τ => τ.1 = ci 1 ∧ C1 τ.2 ∧ τ.2.1 0 2 = ci 1 ∧ τ.2.1 19 3 = s.1 2 3 ∧ τ.2.1 31 3 = s.1 14 3 ∧ τ.2.1 33 3 = s.1 16 3 ∧ ∀ j, 1 ≤ j → j ≤ 17 → τ.2.1 j = s.1 j) := by
      unfold F_X11_image
      rw [if_neg n0]
      exact V_X11_take h.2.2.1
    refine ok_k (T_X11_image h.1) hv (fun τ q k => ?_)
    obtain ⟨k1, k2, k3, k5, k6, k7, k8⟩ := k
    have r89 : τ.2.1 89 = s.1 89 := q.2.2.1 89 (by decide)
    have hv2 : pk (F_X12_image (ci 1) τ.2) (fun υ => υ.1 = ci 1 ∧ υ.2.1 88 4 = ci 1 ∧ υ.2.1 89 = τ.2.1 89 ∧ ∀ k, k < 1894 → υ.2.1 90 k = τ.2.1 89 k) := by
      unfold F_X12_image
      rw [if_neg n0]
      exact V_X12_take n0
    refine ok_k (T_X12_image (IM_rows q.2.2.1 h.2.1)) hv2 (fun υ p m => ?_)
    obtain ⟨m1, m2, m3, m4⟩ := m
    have p := p.2
    refine ⟨⟨IC_rows p.2.1 q.2.1, p.1, C1_rows p.2.1 k2, ?_⟩, k1.trans m1.symm⟩
    unfold R1 R1h
    rw [p.2.1 2 (by decide), p.2.1 14 (by decide), p.2.1 16 (by decide), p.2.1 0 (by decide), p.2.1 19 (by decide), p.2.1 31 (by decide), p.2.1 33 (by decide), m2, m3, m4 112 (by decide), m4 118 (by decide), m4 1049 (by decide), k8 2 (by decide) (by decide), k8 14 (by decide) (by decide), k8 16 (by decide) (by decide), k3, k5, k6, k7, r89]
    exact ⟨⟨z1, z2, z3⟩, pb1, rfl, fun _ => ⟨z1, z2, z3⟩⟩
end
end
/-! 5a.words -/
section
noncomputable section
/-! THE WORDS OF THE TEXTS, here and there -/
def wW : List (List Int32) := [[103, 111], [99, 111, 109, 101], [99, 97, 114, 114, 121], [115, 116, 114, 97, 121], [102, 114, 111, 110, 116], [112, 114, 105, 111, 114], [103, 117, 101, 115, 116], [102, 108, 111, 111, 114], [97, 103, 101], [99, 108, 111, 99, 107], [100, 97, 121], [112, 101, 97, 114], [114, 97, 105, 110], [98, 111, 97, 114, 100], [115, 105, 110, 99, 101], [119, 104, 101, 110], [111, 114], [97, 110, 100], [110, 111, 116], [115, 105, 103, 110], [105, 110], [111, 117, 116], [99, 108, 101, 114, 107], [102, 114, 111, 109], [102, 111, 114], [97, 116]]
def wS : List Nat := [0, 3, 8, 14, 20, 26, 32, 38, 44, 48, 54, 58, 63, 68, 74, 80, 85, 88, 92, 96, 101, 104, 108, 114, 119, 123, 126]
def wJ : List Nat := [15, 16, 17, 18, 6, 7, 8, 9, 10, 11, 12, 13, 14, 0, 1, 2, 3, 4, 5, 19, 20, 21, 22, 23, 24, 25]
def sch (j k : Nat) : Int32 := ((((m_sb.getD j []).getD k 0) &&& (c16 255)).toUInt32 % 65536).toInt32
theorem w_f1 : ∀ w, w < 26 → ∀ k, k < (wW.getD w []).length → sch 0 (wS.getD w 0 + k) = (wW.getD w []).getD k 0 := by decide +kernel
theorem w_f2 : ∀ w, w < 26 → sch 0 (wS.getD w 0 + (wW.getD w []).length) = c8 32 := by decide +kernel
theorem w_f3 : ∀ w, w < 26 → ∀ k, k < (wW.getD w []).length → sch 0 (wS.getD w 0 + k) ≠ c8 32 := by decide +kernel
theorem w_f4 : ∀ w, w < 26 → wS.getD (w + 1) 0 = wS.getD w 0 + (wW.getD w []).length + 1 := by decide +kernel
theorem w_f5 : ∀ w, w < 26 → (wW.getD w []).length < 6 ∧ 1 < (wW.getD w []).length ∧ wS.getD w 0 + (wW.getD w []).length < 126 := by decide +kernel
theorem w_f6 : ∀ w, w < 26 → ∀ v, v < 26 → wW.getD w [] = wW.getD v [] → w = v := by decide +kernel
theorem w_f7 : (m_sb.getD 0 []).length = 126 := by decide +kernel
theorem w_f8 : ∀ j, j < 26 → (m_sb.getD (j + 1) []).length = (wW.getD (wJ.getD j 0) []).length := by decide +kernel
theorem w_f9 : ∀ j, j < 26 → ∀ k, k < (wW.getD (wJ.getD j 0) []).length → sch (j + 1) k = (wW.getD (wJ.getD j 0) []).getD k 0 := by decide +kernel
theorem w_f10 : ∀ j, j < 26 → wJ.getD j 0 < 26 := by decide +kernel
theorem w_f11 : wS.getD 26 0 = 126 := by decide +kernel
/-- what stands on the tape from a to b -/
def seg (T : Nat → Int32) (a b : Nat) : List Int32 := (List.range' a (b - a)).map T
theorem seg_len {T : Nat → Int32} {a b : Nat} : (seg T a b).length = b - a := by simp [seg]
theorem seg_get {T : Nat → Int32} {a b k : Nat} (h : k < b - a) : (seg T a b).getD k 0 = T (a + k) := by
  unfold seg
  rw [List.getD_eq_getElem?_getD, List.getElem?_map, List.getElem?_range' (by omega)]
  simp
theorem seg_eq {T : Nat → Int32} {a b : Nat} {l : List Int32} (h1 : l.length = b - a) (h2 : ∀ k, k < l.length → T (a + k) = l.getD k 0) : seg T a b = l := by
  refine List.ext_getElem (by rw [seg_len, h1]) (fun k h3 h4 => ?_)
  have e := h2 k h4
  have g : (seg T a b).getD k 0 = T (a + k) := seg_get (by omega)
  rw [List.getD_eq_getElem?_getD, List.getElem?_eq_getElem h3] at g
  rw [List.getD_eq_getElem?_getD, List.getElem?_eq_getElem h4] at e
  exact (show (seg T a b)[k] = T (a + k) from g).trans e
theorem pbo1 : (ci 1 : Int32) = 0 ∨ (ci 1 : Int32) = 1 := pb1
theorem pbo0 : (ci 0 : Int32) = 0 ∨ (ci 0 : Int32) = 1 := pb0
theorem c1n0 : ¬ (ci 1 : Int32) = 0 := by decide
theorem c0e0 : (ci 0 : Int32) = 0 := by decide
theorem V_chr {sk k : Nat} {s : mG} (h : 1000100 ≤ sk ∧ sk < 1000127) (hk : k < (m_sb.getD (sk - 1000100) []).length) : F_J0_charAt_5068e sk s (cn k) = some (sch (sk - 1000100) k) := by
  have hl := m_sb_lt (sk - 1000100)
  have h0 : ¬ cn k < 0 := cn_nn (by omega)
  have h1 : ¬ cn (m_sb.getD (sk - 1000100) []).length ≤ cn k := fun q => absurd ((cn_le (by omega) (by omega)).mp q) (by omega)
  have e1 : F_J0_isLatin1_aae02 sk s = some (ci 1) := by
    unfold F_J0_isLatin1_aae02
    rw [if_neg (by decide), if_pos rfl]
  unfold F_J0_charAt_5068e
  rw [e1, b1_some, if_neg (by decide)]
  have e2 : F_J1_charAt_3b067 (sk + 100) s (cn k) = some ((((m_sb.getD (sk + 100 - 1000200) []).getD (cn k).toNatClampNeg 0) &&& (c16 255)).toUInt32 % 65536).toInt32 := by
    unfold F_J1_charAt_3b067 F_J0_checkIndex_df160
    rw [mal_s (by omega), show sk + 100 - 1000200 = sk - 1000100 by omega, b1_some, F_chk h0 h1, b1_some, b1_some, if_neg (idx_ok (m_sb_lt _) h0 h1), if_pos (u_16 _)]
  rw [e2, b1_some, if_pos (u_16 _), cn_nat (by omega), show sk + 100 - 1000200 = sk - 1000100 by omega]
  rfl
theorem cn_sub {a b : Nat} (h : b ≤ a) (ha : a < 2147483648) : cn a - cn b = cn (a - b) := Int32.toInt_inj.mp (by
  rw [t_sub (by rw [t_cn ha, t_cn (by omega)]; omega) (by rw [t_cn ha, t_cn (by omega)]; omega), t_cn ha, t_cn (by omega), t_cn (by omega)]; omega)
/-! the class: one word held against the tape -/
theorem V_cell64 {s : mG} {k : Nat} (h : k < 400) : F_X11_cell 64 s (cn k) = some (s.1 64 k) := by
  have h1 : mal 64 = some 400 := by decide +kernel
  have h4 : mia s 64 (cn k) = some (s.1 64 (cn k).toNatClampNeg) := by
    unfold mia
    rw [show SH[64]? = some (.inl (0, 400, [])) by decide +kernel]
    simp only [if_neg (cn_ix h (by omega))]
  unfold F_X11_cell
  rw [if_neg (cn_nn (by omega)), h1, b1_some, if_neg (fun q => absurd ((cn_le (by omega) (by omega)).mp q) (by omega)), h4, b1_some, cn_nat (by omega)]
theorem V_isWord {s : mG} {T : Nat → Int32} {a b w : Nat} (hT : s.1 64 = T) (hp : s.1 55 13 = cn b) (hab : a ≤ b) (hb : b ≤ 400) (hw : w < 26) : pk (F_X7_isWord s (cn a) (cn (wS.getD w 0)) (cn (wS.getD w 0 + (wW.getD w []).length))) (fun v => (v = ci 1 ∧ seg T a b = wW.getD w []) ∨ (v = ci 0 ∧ seg T a b ≠ wW.getD w [])) := by
  have f5 := w_f5 w hw
  have f1 := w_f1 w hw
  generalize wS.getD w 0 = st at *
  generalize hW : wW.getD w [] = L at *
  unfold F_X7_isWord
  rw [cn_sub (by omega) (by omega), hp, cn_sub hab (by omega), show st + L.length - st = L.length by omega]
  by_cases hl : L.length = b - a
  · rw [if_pos (by rw [hl])]
    have e0 : imax (cn st) (ci 0) = cn st := if_neg fun q => absurd ((cn_lt (a := st) (b := 0) (by omega) (by omega)).mp q) (by omega)
    rw [e0]
    unfold F_X7_isWord_L21
    refine pk_whl (fun v => v.1 = cn a ∧ v.2.1 = cn st ∧ v.2.2.1 = cn (st + L.length) ∧ ∃ k, v.2.2.2 = cn (st + k) ∧ k ≤ L.length ∧ ∀ j, j < k → T (a + j) = L.getD j 0) ⟨rfl, rfl, rfl, 0, rfl, by omega, fun j hj => absurd hj (by omega)⟩ (fun v hv => ?_)
    obtain ⟨x1, x2, x3, x4⟩ := v
    obtain ⟨g1, g2, g3, k, g4, g5, g6⟩ := hv
    have g1 : x1 = cn a := g1
    have g2 : x2 = cn st := g2
    have g3 : x3 = cn (st + L.length) := g3
    have g4 : x4 = cn (st + k) := g4
    subst g1; subst g2; subst g3; subst g4
    unfold F_X7_isWord_B21 F_X7_isWord_68
    by_cases hk : L.length ≤ k
    · rw [if_pos ((cn_le (by omega) (by omega)).mpr (by omega))]
      exact pk_some (Or.inl ⟨rfl, seg_eq hl (fun j hj => g6 j (by omega))⟩)
    · rw [if_neg (fun q => absurd ((cn_le (by omega) (by omega)).mp q) (by omega)), F_len (by omega), b1_some]
      have l0 : (m_sb.getD (1000100 - 1000100) []).length = 126 := w_f7
      rw [l0, if_neg (fun q => absurd ((cn_le (by omega) (by omega)).mp q) (by omega)), V_chr (by omega) (by rw [l0]; omega), b1_some, cn_add (by omega), show a + (st + k) = a + k + st by omega, cn_sub (by omega) (by omega), show a + k + st - st = a + k by omega, V_cell64 (by omega), b1_some, hT, show (1000100 - 1000100 : Nat) = 0 by rfl, f1 k (by omega)]
      by_cases hc : L.getD k 0 = T (a + k)
      · rw [if_pos hc, cnu (by omega)]
        refine pk_some (show _ ∧ _ ∧ _ ∧ _ from ⟨rfl, rfl, rfl, k + 1, by rw [Nat.add_assoc], by omega, fun j hj => ?_⟩)
        by_cases hjk : j = k
        · subst hjk; exact hc.symm
        · exact g6 j (by omega)
      · rw [if_neg hc]
        refine pk_some (Or.inr ⟨rfl, fun e => hc ?_⟩)
        rw [← e, seg_get (by omega)]
  · rw [if_neg (fun q => hl ((cn_inj (by omega) (by omega)).mp q))]
    refine pk_some (Or.inr ⟨rfl, fun e => hl ?_⟩)
    rw [← e, seg_len]
/-- which word it is -/
def isWd (T : Nat → Int32) (a b w : Nat) : Prop := w < 26 ∧ seg T a b = wW.getD w []
theorem V_wordNumber {s : mG} {T : Nat → Int32} {a b : Nat} (hT : s.1 64 = T) (hp : s.1 55 13 = cn b) (hab : a ≤ b) (hb : b ≤ 400) : pk (F_X7_wordNumber s (cn a)) (fun v => (∃ w, v = cn w ∧ isWd T a b w) ∨ (v = ci (-1) ∧ ∀ w, ¬ isWd T a b w)) := by
  unfold F_X7_wordNumber F_X7_wordNumber_L7
  refine pk_whl (fun v => v.1 = cn a ∧ ∃ w k, v.2.1 = cn w ∧ v.2.2.1 = cn (wS.getD w 0) ∧ v.2.2.2 = cn (wS.getD w 0 + k) ∧ (w < 26 ∧ k ≤ (wW.getD w []).length ∨ w = 26 ∧ k = 0) ∧ ∀ x, x < w → ¬ isWd T a b x) ⟨rfl, 0, 0, rfl, rfl, rfl, Or.inl ⟨by omega, by omega⟩, fun x hx => absurd hx (by omega)⟩ (fun v hv => ?_)
  obtain ⟨x1, x2, x3, x4⟩ := v
  obtain ⟨g1, w, k, g2, g3, g4, g5, g6⟩ := hv
  have g1 : x1 = cn a := g1
  have g2 : x2 = cn w := g2
  have g3 : x3 = cn (wS.getD w 0) := g3
  have g4 : x4 = cn (wS.getD w 0 + k) := g4
  subst g1; subst g2; subst g3; subst g4
  unfold F_X7_wordNumber_B7 F_X7_wordNumber_50
  have l0 : (m_sb.getD (1000100 - 1000100) []).length = 126 := w_f7
  rw [F_len (by omega), b1_some, l0]
  rcases g5 with ⟨hw, hk⟩ | ⟨hw, hk⟩
  · have f5 := w_f5 w hw
    rw [if_neg (fun q => absurd ((cn_le (by omega) (by omega)).mp q) (by omega)), V_chr (by omega) (by rw [l0]; omega), b1_some, show (1000100 - 1000100 : Nat) = 0 by rfl]
    by_cases hkl : k = (wW.getD w []).length
    · subst hkl
      rw [if_pos (w_f2 w hw)]
      refine pk_b1 (V_isWord hT hp hab hb hw) (fun v8 h8 => ?_)
      rcases h8 with ⟨e, h8⟩ | ⟨e, h8⟩
      · subst e
        rw [if_neg (by decide)]
        exact pk_some (Or.inl ⟨w, rfl, hw, h8⟩)
      · subst e
        rw [if_pos (by decide), cnu (by omega), cnu (by omega)]
        have f4 := w_f4 w hw
        refine pk_some (show _ ∧ _ from ⟨rfl, w + 1, 0, rfl, by rw [f4], by rw [f4], ?_, fun x hx => ?_⟩)
        · by_cases h26 : w + 1 = 26
          · exact Or.inr ⟨h26, rfl⟩
          · exact Or.inl ⟨by omega, by omega⟩
        · by_cases hxw : x = w
          · subst hxw; exact fun q => h8 q.2
          · exact g6 x (by omega)
    · rw [if_neg (w_f3 w hw k (by omega)), cnu (by omega)]
      exact pk_some (show _ ∧ _ from ⟨rfl, w, k + 1, rfl, rfl, by rw [Nat.add_assoc], Or.inl ⟨hw, by omega⟩, g6⟩)
  · subst hw; subst hk
    rw [w_f11, if_pos ((cn_le (by omega) (by omega)).mpr (by omega))]
    exact pk_some (Or.inr ⟨rfl, fun w q => g6 w q.1 q⟩)
/-! the reference: one word held against the tape -/
theorem V_is {s : mG} {T : Nat → Int32} {a b j : Nat} (hT : ∀ k, k < b → s.1 95 k = T k) (h18 : s.1 88 18 = cn a) (h16 : s.1 88 16 = cn b) (hab : a ≤ b) (hb : b ≤ 400) (hj : j < 26) : pk (F_X12_is (1000100 + (j + 1)) s) (fun v => (v = ci 1 ∧ isWd T a b (wJ.getD j 0)) ∨ (v = ci 0 ∧ ¬ isWd T a b (wJ.getD j 0))) := by
  have f8 := w_f8 j hj
  have f9 := w_f9 j hj
  have f10 := w_f10 j hj
  have f5 := w_f5 _ f10
  unfold isWd
  generalize wJ.getD j 0 = w at *
  have hs : 1000100 + (j + 1) - 1000100 = j + 1 := by omega
  unfold F_X12_is
  rw [F_len (by omega), b1_some, hs, f8, h18, h16, cn_sub hab (by omega)]
  generalize hW : wW.getD w [] = L at *
  have lp : ∀ x2 : Int32, (x2 = ci 1 ∧ L.length = b - a) ∨ (x2 = ci 0 ∧ L.length ≠ b - a) → pk (F_X12_is_21 (1000100 + (j + 1)) s x2) (fun v => (v = ci 1 ∧ w < 26 ∧ seg T a b = L) ∨ (v = ci 0 ∧ ¬ (w < 26 ∧ seg T a b = L))) := by
    intro x2 hx
    unfold F_X12_is_21 F_X12_is_L24
    refine pk_whl (fun v => ∃ k, v.2 = cn k ∧ k ≤ L.length ∧ ((v.1 = ci 1 ∧ L.length = b - a ∧ ∀ i, i < k → T (a + i) = L.getD i 0) ∨ (v.1 = ci 0 ∧ seg T a b ≠ L))) ⟨0, rfl, by omega, ?_⟩ (fun v hv => ?_)
    · rcases hx with ⟨e, h⟩ | ⟨e, h⟩
      · exact Or.inl ⟨e, h, fun i hi => absurd hi (by omega)⟩
      · exact Or.inr ⟨e, fun q => h (by rw [← q, seg_len])⟩
    · obtain ⟨y2, y3⟩ := v
      obtain ⟨k, g1, g2, g3⟩ := hv
      have g1 : y3 = cn k := g1
      subst g1
      unfold F_X12_is_B24 F_X12_is_67 F_X12_is_60
      dsimp only
      rw [F_len (by omega), b1_some, hs, f8]
      rcases g3 with ⟨e, g4, g5⟩ | ⟨e, g4⟩
      · have e : y2 = ci 1 := e
        subst e
        by_cases hk : L.length ≤ k
        · rw [if_pos ((cn_le (by omega) (by omega)).mpr hk), if_pos pbo1, b1_some]
          exact pk_some (Or.inl ⟨rfl, f10, seg_eq g4 (fun i hi => g5 i (by omega))⟩)
        · rw [if_neg (fun q => hk ((cn_le (by omega) (by omega)).mp q)), if_neg c1n0]
          refine pk_nn ?_
          rw [V_chr (by omega) (by rw [hs, f8]; omega), b1_some, hs, f9 k (by omega), h18, cn_add (by omega), cn_nat (by omega), hT (a + k) (by omega), cnu (by omega)]
          by_cases hc : T (a + k) = L.getD k 0
          · rw [if_pos hc]
            refine pk_some (show ∃ _, _ from ⟨k + 1, rfl, by omega, Or.inl ⟨rfl, g4, fun i hi => ?_⟩⟩)
            by_cases hik : i = k
            · subst hik; exact hc
            · exact g5 i (by omega)
          · rw [if_neg hc]
            refine pk_some (show ∃ _, _ from ⟨k + 1, rfl, by omega, Or.inr ⟨rfl, fun q => hc ?_⟩⟩)
            rw [← q, seg_get (by omega)]
      · have e : y2 = ci 0 := e
        subst e
        refine pk_ite ?_ ?_
        · rw [if_pos pbo0, b1_some]
          exact pk_some (Or.inr ⟨rfl, fun q => g4 q.2⟩)
        · rw [if_pos c0e0, if_pos pbo0, b1_some]
          exact pk_some (Or.inr ⟨rfl, fun q => g4 q.2⟩)
  by_cases hl : L.length = b - a
  · rw [if_pos (by rw [hl])]; exact lp _ (Or.inl ⟨rfl, hl⟩)
  · rw [if_neg (fun q => hl ((cn_inj (by omega) (by omega)).mp q).symm)]; exact lp _ (Or.inr ⟨rfl, hl⟩)
end
end
/-! 5b.chars -/
section
noncomputable section
/-! SIGNS OF THE TAPE -/
theorem cle {x y : Int32} {a b : Nat} (hx : x = cn a) (hy : y = cn b) (ha : a < 2147483648) (hb : b < 2147483648) : x ≤ y ↔ a ≤ b := by
  subst hx; subst hy; exact cn_le ha hb
theorem clt {x y : Int32} {a b : Nat} (hx : x = cn a) (hy : y = cn b) (ha : a < 2147483648) (hb : b < 2147483648) : x < y ↔ a < b := by
  subst hx; subst hy; exact cn_lt ha hb
def lt2 (x : Int32) : Int32 := if x < c8 65 then ci 0 else if c8 90 < x then ci 0 else ci 1
def ltv (x : Int32) : Int32 := if x < c8 97 then lt2 x else if x ≤ c8 122 then ci 1 else lt2 x
def dgv (x : Int32) : Int32 := wi x (c8 48) (c8 57)
def bkv (x : Int32) : Int32 := if x = c8 32 then ci 1 else if x = c8 10 then ci 1 else ci 0
theorem V_isLetter {s : mG} {x : Int32} : F_X7_isLetter s x = some (ltv x) := by
  have h : F_X7_isLetter_12 s x = some (lt2 x) := by
    unfold F_X7_isLetter_12 F_X7_isLetter_28 F_X7_isLetter_24 lt2
    repeat' split
    all_goals rfl
  unfold F_X7_isLetter F_X7_isLetter_24 ltv
  rw [h]
  repeat' split
  all_goals rfl
theorem V_isLetter12 {s : mG} {x : Int32} : F_X12_isLetter s x = some (ltv x) := by
  unfold F_X12_isLetter F_X12_isLetter_22 ltv lt2
  rw [F_isIn, F_isIn, b1_some, b1_some]
  unfold wi
  by_cases h1 : x < c8 97
  · simp only [if_pos h1, show (ci 0 : Int32) = 0 by decide, if_true]
    by_cases h2 : x < c8 65
    · simp only [if_pos h2, if_true]
    · by_cases h3 : c8 90 < x
      · simp only [if_neg h2, if_pos h3, if_true]
      · simp only [if_neg h2, if_neg h3, show ¬ ci 1 = 0 by decide, if_false]
  · by_cases h2 : c8 122 < x
    · have h3 : ¬ x ≤ c8 122 := Int32.not_le.mpr h2
      simp only [if_neg h1, if_pos h2, if_neg h3, show (ci 0 : Int32) = 0 by decide, if_true]
      by_cases h4 : x < c8 65
      · simp only [if_pos h4, if_true]
      · by_cases h5 : c8 90 < x
        · simp only [if_neg h4, if_pos h5, if_true]
        · simp only [if_neg h4, if_neg h5, show ¬ ci 1 = 0 by decide, if_false]
    · have h3 : x ≤ c8 122 := Int32.not_lt.mp h2
      simp only [if_neg h1, if_neg h2, if_pos h3, show ¬ ci 1 = 0 by decide, if_false]
theorem V_isDigit {s : mG} {x : Int32} : F_X7_isDigit s x = some (dgv x) := by
  unfold F_X7_isDigit F_X7_isDigit_16 dgv wi
  repeat' split
  all_goals rfl
theorem V_isDigit12 {s : mG} {x : Int32} : F_X12_isDigit s x = some (dgv x) := by
  unfold F_X12_isDigit
  rw [F_isIn, b1_some]
  exact if_pos (wi_b _ _ _)
theorem V_isBlank {s : mG} {x : Int32} : F_X7_isBlank s x = some (bkv x) := by
  unfold F_X7_isBlank F_X7_isBlank_12 bkv
  repeat' split
  all_goals rfl
theorem lt2_b (x : Int32) : PB (lt2 x) := by
  unfold lt2
  repeat' split
  all_goals first
    | exact pb0
    | exact pb1
theorem ltv_b (x : Int32) : PB (ltv x) := by
  unfold ltv
  repeat' split
  all_goals first
    | exact lt2_b _
    | exact pb1
theorem dgv_b (x : Int32) : PB (dgv x) := wi_b _ _ _
theorem bkv_b (x : Int32) : PB (bkv x) := by
  unfold bkv
  repeat' split
  all_goals first
    | exact pb0
    | exact pb1
theorem ltv_f {x : Int32} (h : ¬ ltv x = 0) : (97 ≤ x.toInt ∧ x.toInt ≤ 122) ∨ (65 ≤ x.toInt ∧ x.toInt ≤ 90) := by
  have z : (ci 0 : Int32) = 0 := by decide
  have l2 : ¬ lt2 x = 0 → (65 ≤ x.toInt ∧ x.toInt ≤ 90) := fun h => by
    unfold lt2 at h
    by_cases h1 : x < c8 65
    · rw [if_pos h1] at h; exact absurd z h
    · rw [if_neg h1] at h
      by_cases h2 : c8 90 < x
      · rw [if_pos h2] at h; exact absurd z h
      · exact ⟨r_nlt rfl (by decide : (c8 65).toInt = 65) h1, r_nlt (by decide : (c8 90).toInt = 90) rfl h2⟩
  unfold ltv at h
  by_cases h1 : x < c8 97
  · rw [if_pos h1] at h; exact Or.inr (l2 h)
  · rw [if_neg h1] at h
    by_cases h2 : x ≤ c8 122
    · exact Or.inl ⟨r_nlt rfl (by decide : (c8 97).toInt = 97) h1, r_le rfl (by decide : (c8 122).toInt = 122) h2⟩
    · rw [if_neg h2] at h; exact Or.inr (l2 h)
theorem dgv_f {x : Int32} (h : ¬ dgv x = 0) : 48 ≤ x.toInt ∧ x.toInt ≤ 57 := by
  have q := wi_f h
  rw [show (c8 48).toInt = 48 by decide, show (c8 57).toInt = 57 by decide] at q
  exact q
theorem ltv_dgv {x : Int32} (h : ¬ ltv x = 0) : dgv x = 0 := by
  refine (dgv_b x).resolve_right fun e => ?_
  have h1 := ltv_f h
  have h2 := dgv_f (x := x) (by rw [e]; decide)
  omega
theorem lt2_m1 : ltv (ci (-1)) = 0 := by decide
theorem dgv_m1 : dgv (ci (-1)) = 0 := by decide
/-- the longest row of such signs from a on -/
def Run (P : Int32 → Int32) (T : Nat → Int32) (len a b : Nat) : Prop := a ≤ b ∧ b ≤ len ∧ (∀ k, a ≤ k → k < b → ¬ P (T k) = 0) ∧ (b = len ∨ P (T b) = 0)
theorem Run_one {P : Int32 → Int32} {T : Nat → Int32} {len a b c : Nat} (h : Run P T len a b) (k : Run P T len a c) : b = c := by
  obtain ⟨h1, h2, h3, h4⟩ := h
  obtain ⟨k1, k2, k3, k4⟩ := k
  rcases Nat.lt_trichotomy b c with q | q | q
  · rcases h4 with e | e
    · omega
    · exact absurd e (k3 b h1 q)
  · exact q
  · rcases k4 with e | e
    · omega
    · exact absurd e (h3 c k1 q)
/-- a token: from where one reads (p), where it begins, where it ends -/
def Tok (T : Nat → Int32) (len p a b : Nat) : Prop := Run bkv T len p a ∧ ((a = len ∧ b = len) ∨ (a < len ∧ ((¬ ltv (T a) = 0 ∧ Run ltv T len a b) ∨ (ltv (T a) = 0 ∧ ¬ dgv (T a) = 0 ∧ Run dgv T len a b) ∨ (ltv (T a) = 0 ∧ dgv (T a) = 0 ∧ b = a + 1))))
theorem Tok_one {T : Nat → Int32} {len p a b c d : Nat} (h : Tok T len p a b) (k : Tok T len p c d) : a = c ∧ b = d := by
  obtain ⟨h1, h2⟩ := h
  obtain ⟨k1, k2⟩ := k
  have e := Run_one h1 k1
  subst e
  refine ⟨rfl, ?_⟩
  rcases h2 with ⟨q1, q2⟩ | ⟨q1, q2⟩
  · rcases k2 with ⟨r1, r2⟩ | ⟨r1, r2⟩
    · omega
    · omega
  · rcases k2 with ⟨r1, r2⟩ | ⟨r1, r2⟩
    · omega
    · rcases q2 with ⟨x1, x2⟩ | ⟨x1, x2, x3⟩ | ⟨x1, x2, x3⟩ <;> rcases r2 with ⟨y1, y2⟩ | ⟨y1, y2, y3⟩ | ⟨y1, y2, y3⟩
      · exact Run_one x2 y2
      · exact absurd y1 x1
      · exact absurd y1 x1
      · exact absurd x1 y1
      · exact Run_one x3 y3
      · exact absurd y2 x2
      · exact absurd x1 y1
      · exact absurd x2 y2
      · omega
theorem Tok_lt {T : Nat → Int32} {len p a b : Nat} (h : Tok T len p a b) (ha : a < len) : a < b ∧ b ≤ len := by
  obtain ⟨_, h2⟩ := h
  rcases h2 with ⟨q1, q2⟩ | ⟨q1, ⟨x1, x2, x3, x4, x5⟩ | ⟨x1, x2, x3, x4, x5, x6⟩ | ⟨x1, x2, x3⟩⟩
  · omega
  · rcases x5 with e | e
    · omega
    · refine ⟨?_, x3⟩
      rcases Nat.lt_or_ge a b with q | q
      · exact q
      · have : a = b := by omega
        subst this; exact absurd e x1
  · rcases x6 with e | e
    · omega
    · refine ⟨?_, x4⟩
      rcases Nat.lt_or_ge a b with q | q
      · exact q
      · have : a = b := by omega
        subst this; exact absurd e x2
  · omega
/-- the number that the digits say -/
def nv (T : Nat → Int32) (a : Nat) : Nat → Int32
  | 0 => ci 0
  | k + 1 => ((nv T a k * c8 10) + T (a + k)) - c8 48
/-- the class's kind of a token -/
def KC (T : Nat → Int32) (a b : Nat) (kc : Int32) : Prop :=
  (¬ ltv (T a) = 0 ∧ ((∃ w, isWd T a b w ∧ kc = c16 256 + cn w) ∨ ((∀ w, ¬ isWd T a b w) ∧ kc = c8 (-3)))) ∨
  (ltv (T a) = 0 ∧ ¬ dgv (T a) = 0 ∧ ((b - a ≤ 4 ∧ kc = c8 (-2)) ∨ (4 < b - a ∧ kc = c8 (-3)))) ∨
  (ltv (T a) = 0 ∧ dgv (T a) = 0 ∧ kc = T a)
/-! the class cuts the tape -/
/-- what stays while it is cut -/
def RDs (T : Nat → Int32) (len : Nat) (s : mG) : Prop := s.1 64 = T ∧ s.1 55 9 = cn len ∧ len ≤ 400
def RFr (s0 s : mG) : Prop := s.2 = s0.2 ∧ (∀ j, j ≠ 55 → j ≠ 65 → j ≠ 66 → s.1 j = s0.1 j) ∧ (∀ c, c ≠ 13 → s.1 55 c = s0.1 55 c)
theorem V_skipBlanks {T : Nat → Int32} {len p : Nat} {s : mG} (hR : RDs T len s) (hp : s.1 55 13 = cn p) (hpl : p ≤ len) : pk (F_X7_skipBlanks s) (fun τ => ∃ a, Run bkv T len p a ∧ τ.1 = (if a = len then ci 0 else ci 1) ∧ τ.2 = (mu s.1 55 13 (cn a), s.2)) := by
  obtain ⟨hT, hl, hb⟩ := hR
  unfold F_X7_skipBlanks F_X7_skipBlanks_L0
  have self : s = (mu s.1 55 13 (cn p), s.2) := by
    refine Prod.ext ?_ rfl
    funext i k
    show s.1 i k = mu s.1 55 13 (cn p) i k
    rw [mu_ap]
    by_cases h : i = 55 ∧ k = 13
    · rw [if_pos h, h.1, h.2, hp]
    · rw [if_neg h]
  refine pk_whl (fun v => ∃ a, p ≤ a ∧ a ≤ len ∧ (∀ k, p ≤ k → k < a → ¬ bkv (T k) = 0) ∧ v = (mu s.1 55 13 (cn a), s.2)) ⟨p, Nat.le_refl _, hpl, fun k h1 h2 => absurd h1 (by omega), self⟩ (fun v hv => ?_)
  obtain ⟨a, g1, g2, g3, g4⟩ := hv
  subst g4
  have e13 : (mu s.1 55 13 (cn a), s.2).1 55 13 = cn a := mu_sameP
  have e9 : (mu s.1 55 13 (cn a), s.2).1 55 9 = cn len := (mu_cellP (by omega)).trans hl
  have e64 : (mu s.1 55 13 (cn a), s.2).1 64 = T := (mu_rowP (by omega)).trans hT
  have fin : ∀ w : Int32, w = (if a = len then ci 0 else ci 1) → (a = len ∨ bkv (T a) = 0) → pk (some (w, ((mu s.1 55 13 (cn a), s.2) : mG))) (fun τ => ∃ a, Run bkv T len p a ∧ τ.1 = (if a = len then ci 0 else ci 1) ∧ τ.2 = (mu s.1 55 13 (cn a), s.2)) := fun w e q => pk_some ⟨a, ⟨g1, g2, g3, q⟩, e, rfl⟩
  unfold F_X7_skipBlanks_B0 F_X7_skipBlanks_41
  rw [e13, e9]
  by_cases hal : len ≤ a
  · rw [if_pos ((cn_le (by omega) (by omega)).mpr hal), if_pos ((cn_le (by omega) (by omega)).mpr hal)]
    exact pk_b1r (fin _ (by rw [if_pos (by omega)]) (Or.inl (by omega)))
  · have hn : ¬ cn len ≤ cn a := fun q => hal ((cn_le (by omega) (by omega)).mp q)
    rw [if_neg hn, if_neg hn, V_cell64 (by omega), b1_some, V_isBlank, b1_some, e64]
    by_cases hk : bkv (T a) = 0
    · rw [if_pos hk]
      exact pk_b1r (fin _ (by rw [if_neg (by omega)]) (Or.inr hk))
    · rw [if_neg hk, cnu (by omega)]
      refine pk_some (show ∃ _, _ from ⟨a + 1, by omega, by omega, fun k h1 h2 => ?_, ?_⟩)
      · by_cases hka : k = a
        · subst hka; exact hk
        · exact g3 k h1 (by omega)
      · refine Prod.ext ?_ rfl
        funext i k
        show mu (mu s.1 55 13 (cn a)) 55 13 (cn (a + 1)) i k = mu s.1 55 13 (cn (a + 1)) i k
        rw [mu_ap, mu_ap, mu_ap]
        by_cases h : i = 55 ∧ k = 13
        · rw [if_pos h, if_pos h]
        · rw [if_neg h, if_neg h, if_neg h]
/-- the tokens' table, m rows long -/
def TT (m : Nat) (s : mG) : Prop := s.1 65 0 = cn 401 ∧ s.1 65 1 = cn 3 ∧ s.1 65 3 = cn m
theorem al_66 : m_alen (65 + 1) = 1203 := by decide +kernel
theorem V_addToken {s : mG} {k n p : Int32} {m : Nat} (h : TT m s) (hm : m < 401) : F_X7_addToken k n p s = some (mu (mu (mu (mu s.1 65 3 (cn (m + 1))) 66 (m * 3 + 0) k) 66 (m * 3 + 1) n) 66 (m * 3 + 2) p, s.2) := by
  obtain ⟨h0, h1, h3⟩ := h
  unfold F_X7_addToken
  rw [V_add h0 h3 (by decide) hm, b2_some]
  have w : ∀ D : Nat → Nat → Int32, (∀ j, D 65 j = mu s.1 65 3 (cn (m + 1)) 65 j) → ((D, s.2) : mG).1 65 1 = cn 3 ∧ ((D, s.2) : mG).1 65 3 = cn (m + 1) := fun D e => ⟨(e 1).trans ((mu_cell (by omega)).trans h1), (e 3).trans mu_same⟩
  have w1 := w (mu s.1 65 3 (cn (m + 1))) (fun _ => rfl)
  rw [V_put (a2 := ci 0) (r := m) (c := 0) (n := m + 1) (W := 3) rfl rfl w1.1 w1.2 (by omega) (by omega) (by rw [al_66]; omega) (by omega), b1_some]
  have w2 := w (mu (mu s.1 65 3 (cn (m + 1))) (65 + 1) (m * 3 + 0) k) (fun j => congrFun (mu_row (by omega)) j)
  rw [V_put (a2 := ci 1) (r := m) (c := 1) (n := m + 1) (W := 3) rfl rfl w2.1 w2.2 (by omega) (by omega) (by rw [al_66]; omega) (by omega), b1_some]
  have w3 := w (mu (mu (mu s.1 65 3 (cn (m + 1))) (65 + 1) (m * 3 + 0) k) (65 + 1) (m * 3 + 1) n) (fun j => (congrFun (mu_row (by omega)) j).trans (congrFun (mu_row (by omega)) j))
  rw [V_put (a2 := ci 2) (r := m) (c := 2) (n := m + 1) (W := 3) rfl rfl w3.1 w3.2 (by omega) (by omega) (by rw [al_66]; omega) (by omega), b1_some]
/-- a token is added: behind place b -/
def ADo (m a b : Nat) (k n : Int32) (s u : mG) : Prop := u.2 = s.2 ∧ u.1 = mu (mu (mu (mu (mu s.1 55 13 (cn b)) 65 3 (cn (m + 1))) 66 (m * 3 + 0) k) 66 (m * 3 + 1) n) 66 (m * 3 + 2) (cn a)
theorem mu_two {D : Nat → Nat → Int32} {i k : Nat} {v w : Int32} : mu (mu D i k v) i k w = mu D i k w := by
  funext a b
  rw [mu_ap, mu_ap, mu_ap]
  by_cases h : a = i ∧ b = k
  · rw [if_pos h, if_pos h]
  · rw [if_neg h, if_neg h, if_neg h]
theorem mu_id {D : Nat → Nat → Int32} {i k : Nat} {v : Int32} (h : D i k = v) : mu D i k v = D := by
  funext a b
  rw [mu_ap]
  by_cases q : a = i ∧ b = k
  · rw [if_pos q, q.1, q.2, h]
  · rw [if_neg q]
theorem TT_13 {m : Nat} {s : mG} {v : Int32} (h : TT m s) : TT m (mu s.1 55 13 v, s.2) := by
  obtain ⟨h0, h1, h3⟩ := h
  exact ⟨(congrFun (mu_rowP (by omega)) 0).trans h0, (congrFun (mu_rowP (by omega)) 1).trans h1, (congrFun (mu_rowP (by omega)) 3).trans h3⟩
theorem V_splitWord {T : Nat → Int32} {len a m : Nat} {s : mG} (hR : RDs T len s) (hp : s.1 55 13 = cn a) (ha : a < len) (hm : m < 401) (hTT : TT m s) (hl : ¬ ltv (T a) = 0) : pk (F_X7_splitWord s) (fun u => ∃ b k, Run ltv T len a b ∧ KC T a b k ∧ ADo m a b k (ci 0) s u) := by
  obtain ⟨hT, hlen, hb⟩ := hR
  unfold F_X7_splitWord F_X7_splitWord_L5
  rw [hp]
  refine pk_whl (fun v => v.1 = cn a ∧ ∃ b, a ≤ b ∧ b ≤ len ∧ (∀ k, a ≤ k → k < b → ¬ ltv (T k) = 0) ∧ v.2 = (mu s.1 55 13 (cn b), s.2)) ⟨rfl, a, Nat.le_refl _, by omega, fun k h1 h2 => absurd h1 (by omega), by rw [mu_id hp]⟩ (fun v hv => ?_)
  obtain ⟨x1, u⟩ := v
  obtain ⟨g0, b, g1, g2, g3, g4⟩ := hv
  have g0 : x1 = cn a := g0
  have g4 : u = (mu s.1 55 13 (cn b), s.2) := g4
  subst g0; subst g4
  have e13 : (mu s.1 55 13 (cn b), s.2).1 55 13 = cn b := mu_sameP
  have e9 : (mu s.1 55 13 (cn b), s.2).1 55 9 = cn len := (mu_cellP (by omega)).trans hlen
  have e64 : (mu s.1 55 13 (cn b), s.2).1 64 = T := (mu_rowP (by omega)).trans hT
  have fin : (b = len ∨ ltv (T b) = 0) → pk (F_X7_splitWord_46 (cn a) (mu s.1 55 13 (cn b), s.2)) (fun u => ∃ b k, Run ltv T len a b ∧ KC T a b k ∧ ADo m a b k (ci 0) s u) := by
    intro q
    unfold F_X7_splitWord_46 F_X7_splitWord_68
    refine pk_b1 (V_wordNumber e64 e13 g1 (by omega)) (fun v3 h3 => ?_)
    rw [V_addToken (TT_13 hTT) hm, V_addToken (TT_13 hTT) hm, b1_some, b1_some]
    rcases h3 with ⟨w, e, h3⟩ | ⟨e, h3⟩
    · subst e
      have hw := h3.1
      rw [if_neg (by
        intro e
        have := r_eq (t_cn (n := w) (by omega)) t_cm1 e
        omega)]
      exact pk_some ⟨b, _, ⟨g1, g2, g3, q⟩, Or.inl ⟨hl, Or.inl ⟨w, h3, rfl⟩⟩, rfl, rfl⟩
    · subst e
      rw [if_pos rfl]
      exact pk_some ⟨b, _, ⟨g1, g2, g3, q⟩, Or.inl ⟨hl, Or.inr ⟨h3, rfl⟩⟩, rfl, rfl⟩
  unfold F_X7_splitWord_B5
  rw [e13, e9]
  by_cases hal : len ≤ b
  · rw [if_pos ((cn_le (by omega) (by omega)).mpr hal)]
    exact pk_b1r (fin (Or.inl (by omega)))
  · rw [if_neg (fun q => hal ((cn_le (by omega) (by omega)).mp q)), V_cell64 (by omega), b1_some, V_isLetter, b1_some, e64]
    by_cases hk : ltv (T b) = 0
    · rw [if_pos hk]
      exact pk_b1r (fin (Or.inr hk))
    · rw [if_neg hk, cnu (by omega)]
      refine pk_some (show _ ∧ _ from ⟨rfl, b + 1, by omega, by omega, fun k h1 h2 => ?_, by rw [mu_two]⟩)
      by_cases hka : k = b
      · subst hka; exact hk
      · exact g3 k h1 (by omega)
theorem V_splitNumber {T : Nat → Int32} {len a m : Nat} {s : mG} (hR : RDs T len s) (hp : s.1 55 13 = cn a) (ha : a < len) (hm : m < 401) (hTT : TT m s) (hl : ltv (T a) = 0) (hd : ¬ dgv (T a) = 0) : pk (F_X7_splitNumber s) (fun u => ∃ b k n, Run dgv T len a b ∧ KC T a b k ∧ (b - a ≤ 4 → n = nv T a (b - a)) ∧ ADo m a b k n s u) := by
  obtain ⟨hT, hlen, hb⟩ := hR
  unfold F_X7_splitNumber F_X7_splitNumber_L7
  rw [hp]
  refine pk_whl (fun v => v.1 = cn a ∧ ∃ b, a ≤ b ∧ b ≤ len ∧ (∀ k, a ≤ k → k < b → ¬ dgv (T k) = 0) ∧ (b - a ≤ 4 → v.2.1 = nv T a (b - a)) ∧ v.2.2 = (mu s.1 55 13 (cn b), s.2)) ⟨rfl, a, Nat.le_refl _, by omega, fun k h1 h2 => absurd h1 (by omega), fun _ => by rw [Nat.sub_self]; rfl, by rw [mu_id hp]⟩ (fun v hv => ?_)
  obtain ⟨x1, x2, u⟩ := v
  obtain ⟨g0, b, g1, g2, g3, g5, g4⟩ := hv
  have g0 : x1 = cn a := g0
  have g5 : b - a ≤ 4 → x2 = nv T a (b - a) := g5
  have g4 : u = (mu s.1 55 13 (cn b), s.2) := g4
  subst g0; subst g4
  have e13 : (mu s.1 55 13 (cn b), s.2).1 55 13 = cn b := mu_sameP
  have e9 : (mu s.1 55 13 (cn b), s.2).1 55 9 = cn len := (mu_cellP (by omega)).trans hlen
  have e64 : (mu s.1 55 13 (cn b), s.2).1 64 = T := (mu_rowP (by omega)).trans hT
  have fin : (b = len ∨ dgv (T b) = 0) → pk (F_X7_splitNumber_82 (cn a) x2 (mu s.1 55 13 (cn b), s.2)) (fun u => ∃ b k n, Run dgv T len a b ∧ KC T a b k ∧ (b - a ≤ 4 → n = nv T a (b - a)) ∧ ADo m a b k n s u) := by
    intro q
    unfold F_X7_splitNumber_82 F_X7_splitNumber_100
    rw [V_addToken (TT_13 hTT) hm, V_addToken (TT_13 hTT) hm, b1_some, b1_some, e13, cn_sub g1 (by omega)]
    by_cases h4 : b - a ≤ 4
    · rw [if_pos ((cle (x := cn (b - a)) (y := ci 4) (b := 4) rfl rfl (by omega) (by omega)).mpr h4)]
      exact pk_some ⟨b, _, x2, ⟨g1, g2, g3, q⟩, Or.inr (Or.inl ⟨hl, hd, Or.inl ⟨h4, rfl⟩⟩), g5, rfl, rfl⟩
    · rw [if_neg (fun z => h4 ((cle (x := cn (b - a)) (y := ci 4) (b := 4) rfl rfl (by omega) (by omega)).mp z))]
      exact pk_some ⟨b, _, x2, ⟨g1, g2, g3, q⟩, Or.inr (Or.inl ⟨hl, hd, Or.inr ⟨by omega, rfl⟩⟩), g5, rfl, rfl⟩
  unfold F_X7_splitNumber_B7 F_X7_splitNumber_68
  rw [e13, e9]
  by_cases hal : len ≤ b
  · rw [if_pos ((cn_le (by omega) (by omega)).mpr hal)]
    exact pk_b1r (fin (Or.inl (by omega)))
  · rw [if_neg (fun q => hal ((cn_le (by omega) (by omega)).mp q)), V_cell64 (by omega), b1_some, V_isDigit, b1_some, e64]
    by_cases hk : dgv (T b) = 0
    · rw [if_pos hk]
      exact pk_b1r (fin (Or.inr hk))
    · rw [if_neg hk, cn_sub g1 (by omega), cnu (by omega)]
      have run : ∀ k, a ≤ k → k < b + 1 → ¬ dgv (T k) = 0 := fun k h1 h2 => by
        by_cases hka : k = b
        · subst hka; exact hk
        · exact g3 k h1 (by omega)
      by_cases h4 : 4 ≤ b - a
      · rw [if_pos ((cle (x := ci 4) (a := 4) (y := cn (b - a)) rfl rfl (by omega) (by omega)).mpr h4)]
        exact pk_some (show _ ∧ _ from ⟨rfl, b + 1, by omega, by omega, run, fun z => absurd z (by omega), by rw [mu_two]⟩)
      · rw [if_neg (fun z => h4 ((cle (x := ci 4) (a := 4) (y := cn (b - a)) rfl rfl (by omega) (by omega)).mp z)), b1_some]
        refine pk_some (show _ ∧ _ from ⟨rfl, b + 1, by omega, by omega, run, fun z => ?_, by rw [mu_two]⟩)
        show ((x2 * c8 10) + T b) - c8 48 = _
        rw [show x2 = nv T a (b - a) from g5 (by omega), show b + 1 - a = (b - a) + 1 by omega]
        show _ = ((nv T a (b - a) * c8 10) + T (a + (b - a))) - c8 48
        rw [show a + (b - a) = b by omega]
/-- the first m tokens stand: B says where each ends -/
def TKS (T : Nat → Int32) (len m : Nat) (B : Nat → Nat) (s : mG) : Prop := ∀ i, i < m → ∃ a, Tok T len (B i) a (B (i + 1)) ∧ a < len ∧ KC T a (B (i + 1)) (s.1 66 (i * 3 + 0)) ∧ (¬ dgv (T a) = 0 → B (i + 1) - a ≤ 4 → s.1 66 (i * 3 + 1) = nv T a (B (i + 1) - a)) ∧ s.1 66 (i * 3 + 2) = cn a
theorem ADo_TT {m a b : Nat} {k n : Int32} {s u : mG} (h : TT m s) (hA : ADo m a b k n s u) : TT (m + 1) u := by
  obtain ⟨h0, h1, h3⟩ := h
  obtain ⟨_, e⟩ := hA
  have r : u.1 65 = mu (mu s.1 55 13 (cn b)) 65 3 (cn (m + 1)) 65 := by
    rw [e, mu_row (by omega), mu_row (by omega), mu_row (by omega)]
  refine ⟨?_, ?_, ?_⟩
  · rw [r, mu_cell (by omega), mu_row (by omega)]; exact h0
  · rw [r, mu_cell (by omega), mu_row (by omega)]; exact h1
  · rw [r, mu_same]
theorem ADo_fr {m a b : Nat} {k n : Int32} {s u : mG} (hA : ADo m a b k n s u) : (∀ j, j ≠ 55 → j ≠ 65 → j ≠ 66 → u.1 j = s.1 j) ∧ (∀ c, c ≠ 13 → u.1 55 c = s.1 55 c) ∧ u.1 55 13 = cn b := by
  obtain ⟨_, e⟩ := hA
  refine ⟨fun j h1 h2 h3 => ?_, fun c hc => ?_, ?_⟩
  · rw [e, mu_row h3, mu_row h3, mu_row h3, mu_row h2, mu_row h1]
  · rw [e, mu_row (by omega), mu_row (by omega), mu_row (by omega), mu_row (by omega), mu_cell (Or.inr hc)]
  · rw [e, mu_row (by omega), mu_row (by omega), mu_row (by omega), mu_row (by omega), mu_same]
theorem ADo_66 {m a b : Nat} {k n : Int32} {s u : mG} (hA : ADo m a b k n s u) : (∀ i c, i < m → c < 3 → u.1 66 (i * 3 + c) = s.1 66 (i * 3 + c)) ∧ u.1 66 (m * 3 + 0) = k ∧ u.1 66 (m * 3 + 1) = n ∧ u.1 66 (m * 3 + 2) = cn a := by
  obtain ⟨_, e⟩ := hA
  refine ⟨fun i c hi hc => ?_, ?_, ?_, ?_⟩
  · rw [e, mu_cell (by omega), mu_cell (by omega), mu_cell (by omega), mu_row (by omega), mu_row (by omega)]
  · rw [e, mu_cell (by omega), mu_cell (by omega), mu_same]
  · rw [e, mu_cell (by omega), mu_same]
  · rw [e, mu_same]
theorem TKS_add {T : Nat → Int32} {len m a b : Nat} {B : Nat → Nat} {k n : Int32} {s u : mG} (h : TKS T len m B s) (hA : ADo m a b k n s u) (ht : Tok T len (B m) a b) (ha : a < len) (hk : KC T a b k) (hn : ¬ dgv (T a) = 0 → b - a ≤ 4 → n = nv T a (b - a)) : TKS T len (m + 1) (fun i => if i = m + 1 then b else B i) u := by
  obtain ⟨q1, q2, q3, q4⟩ := ADo_66 hA
  intro i hi
  by_cases him : i = m
  · subst him
    refine ⟨a, ?_, ha, ?_, fun x y => ?_, q4⟩
    · simp only [if_true, if_neg (show ¬ i = i + 1 by omega)]; exact ht
    · simp only [if_true]; rw [q2]; exact hk
    · simp only [if_true] at y ⊢; rw [q3]; exact hn x y
  · obtain ⟨a', z1, z2, z3, z4, z5⟩ := h i (by omega)
    refine ⟨a', ?_, z2, ?_, fun x y => ?_, ?_⟩
    · simp only [if_neg (show ¬ i = m + 1 by omega), if_neg (show ¬ i + 1 = m + 1 by omega)]; exact z1
    · simp only [if_neg (show ¬ i + 1 = m + 1 by omega)]; rw [q1 i 0 (by omega) (by omega)]; exact z3
    · simp only [if_neg (show ¬ i + 1 = m + 1 by omega)] at y ⊢; rw [q1 i 1 (by omega) (by omega)]; exact z4 x y
    · rw [q1 i 2 (by omega) (by omega)]; exact z5
/-- all tokens stand -/
def TKA (T : Nat → Int32) (len m : Nat) (B : Nat → Nat) (s : mG) : Prop := m ≤ 400 ∧ B 0 = 0 ∧ TT (m + 1) s ∧ TKS T len m B s ∧ s.1 66 (m * 3 + 0) = ci (-1) ∧ s.1 66 (m * 3 + 2) = cn len ∧ Run bkv T len (B m) len
theorem V_splitTape {T : Nat → Int32} {len : Nat} {s : mG} (hR : RDs T len s) (h65 : s.1 65 0 = cn 401 ∧ s.1 65 1 = cn 3) : pk (F_X7_splitTape s) (fun u => (∃ m B, TKA T len m B u) ∧ RFr s u) := by
  obtain ⟨hT, hlen, hb⟩ := hR
  unfold F_X7_splitTape F_X10_clear
  dsimp only
  rw [b1_some]
  unfold F_X7_splitTape_L14
  refine pk_whl (fun v => ∃ m B, v.1 = cn m ∧ m ≤ 400 ∧ B 0 = 0 ∧ m ≤ B m ∧ B m ≤ len ∧ v.2.1 55 13 = cn (B m) ∧ TT m v.2 ∧ TKS T len m B v.2 ∧ RFr s v.2) ⟨0, fun _ => 0, rfl, by omega, rfl, Nat.le_refl _, Nat.zero_le _, mu_sameP, ⟨?_, ?_, ?_⟩, fun i hi => absurd hi (by omega), rfl, fun j h1 h2 h3 => (mu_rowP h1).trans (mu_rowP h2), fun c hc => (mu_cellP (Or.inr hc)).trans (congrFun (mu_rowP (by omega)) c)⟩ (fun v hv => ?_)
  · exact (congrFun (mu_rowP (by omega)) 0).trans ((mu_cellP (by omega)).trans h65.1)
  · exact (congrFun (mu_rowP (by omega)) 1).trans ((mu_cellP (by omega)).trans h65.2)
  · exact (congrFun (mu_rowP (by omega)) 3).trans mu_sameP
  obtain ⟨x1, u⟩ := v
  obtain ⟨m, B, g0, g1, g2, g3, g4, g5, g6, g7, g8⟩ := hv
  have g0 : x1 = cn m := g0
  have g5 : u.1 55 13 = cn (B m) := g5
  have g6 : TT m u := g6
  have g7 : TKS T len m B u := g7
  obtain ⟨f1, f2, f3⟩ : RFr s u := g8
  subst g0
  have uT : u.1 64 = T := (f2 64 (by decide) (by decide) (by decide)).trans hT
  have u9 : u.1 55 9 = cn len := (f3 9 (by decide)).trans hlen
  -- the end
  have fin : ∀ w : mG, w.2 = u.2 → (∃ p, w.1 = mu u.1 55 13 p) → Run bkv T len (B m) len → pk (F_X7_splitTape_94 w) (fun u => (∃ m B, TKA T len m B u) ∧ RFr s u) := by
    intro w hw2 hw1 hr
    obtain ⟨p, hw1⟩ := hw1
    have ew : w = (mu u.1 55 13 p, u.2) := Prod.ext hw1 hw2
    subst ew
    unfold F_X7_splitTape_94
    have w9 : (mu u.1 55 13 p, u.2).1 55 9 = cn len := (mu_cellP (by omega)).trans u9
    rw [w9, V_addToken (TT_13 g6) (by omega), b1_some]
    have r : ∀ i c, i < m → c < 3 → mu (mu (mu (mu (mu u.1 55 13 p) 65 3 (cn (m + 1))) 66 (m * 3 + 0) (ci (-1))) 66 (m * 3 + 1) (ci 0)) 66 (m * 3 + 2) (cn len) 66 (i * 3 + c) = u.1 66 (i * 3 + c) := fun i c hi hc => by
      rw [mu_cell (by omega), mu_cell (by omega), mu_cell (by omega), mu_row (by omega), mu_row (by omega)]
    refine pk_some ⟨⟨m, B, g1, g2, ⟨?_, ?_, ?_⟩, fun i hi => ?_, ?_, ?_, hr⟩, f1, fun j h1 h2 h3 => ?_, fun c hc => ?_⟩
    all_goals try dsimp only
    · rw [mu_row (by omega), mu_row (by omega), mu_row (by omega), mu_cell (by omega), mu_row (by omega)]; exact g6.1
    · rw [mu_row (by omega), mu_row (by omega), mu_row (by omega), mu_cell (by omega), mu_row (by omega)]; exact g6.2.1
    · rw [mu_row (by omega), mu_row (by omega), mu_row (by omega), mu_same]
    · obtain ⟨a', z1, z2, z3, z4, z5⟩ := g7 i hi
      exact ⟨a', z1, z2, by rw [show _ = _ from r i 0 hi (by omega)]; exact z3, fun x y => (r i 1 hi (by omega)).trans (z4 x y), (r i 2 hi (by omega)).trans z5⟩
    · rw [mu_cell (by omega), mu_cell (by omega), mu_same]
    · rw [mu_same]
    · rw [mu_row h3, mu_row h3, mu_row h3, mu_row h2, mu_row h1]; exact f2 j h1 h2 h3
    · rw [mu_row (by omega), mu_row (by omega), mu_row (by omega), mu_row (by omega), mu_cell (Or.inr hc)]; exact f3 c hc
  unfold F_X7_splitTape_B14
  by_cases h400 : 400 ≤ m
  · rw [if_pos ((cle (x := c16 400) (a := 400) (y := cn m) (by decide) rfl (by omega) (by omega)).mpr h400)]
    refine pk_b1r (fin u rfl ⟨cn (B m), (mu_id g5).symm⟩ ?_)
    have : B m = len := by omega
    rw [this]
    exact ⟨Nat.le_refl _, Nat.le_refl _, fun k h1 h2 => absurd h1 (by omega), Or.inl rfl⟩
  · rw [if_neg (fun q => h400 ((cle (x := c16 400) (a := 400) (y := cn m) (by decide) rfl (by omega) (by omega)).mp q))]
    refine pk_b2 (V_skipBlanks ⟨uT, u9, hb⟩ g5 g4) (fun v9 s8 q => ?_)
    obtain ⟨a, hr, hv, hs⟩ := q
    have hv : v9 = if a = len then ci 0 else ci 1 := hv
    have hs : s8 = (mu u.1 55 13 (cn a), u.2) := hs
    subst hs
    by_cases hal : a = len
    · rw [if_pos hal] at hv
      subst hv
      rw [if_pos (by decide)]
      subst hal
      exact pk_b1r (fin _ rfl ⟨cn a, rfl⟩ hr)
    · rw [if_neg hal] at hv
      subst hv
      have ha : a < len := by have := hr.2.1; omega
      have e13 : (mu u.1 55 13 (cn a), u.2).1 55 13 = cn a := mu_sameP
      have e9 : (mu u.1 55 13 (cn a), u.2).1 55 9 = cn len := (mu_cellP (by omega)).trans u9
      have e64 : (mu u.1 55 13 (cn a), u.2).1 64 = T := (mu_rowP (by omega)).trans uT
      rw [if_neg (by decide), e13, V_cell64 (by omega), b1_some, V_isLetter, b1_some, e64]
      -- one more
      have more : ∀ (w : mG) (b : Nat) (k n : Int32), Tok T len (B m) a b → KC T a b k → (¬ dgv (T a) = 0 → b - a ≤ 4 → n = nv T a (b - a)) → ADo m a b k n (mu u.1 55 13 (cn a), u.2) w → pk (F_X7_splitTape_88 (cn m) w) (se (fun v => ∃ m B, v.1 = cn m ∧ m ≤ 400 ∧ B 0 = 0 ∧ m ≤ B m ∧ B m ≤ len ∧ v.2.1 55 13 = cn (B m) ∧ TT m v.2 ∧ TKS T len m B v.2 ∧ RFr s v.2) (fun u => (∃ m B, TKA T len m B u) ∧ RFr s u)) := by
        intro w b k n ht hk hn hA
        unfold F_X7_splitTape_88
        rw [cnu (by omega)]
        have hlt := Tok_lt ht ha
        have hle := hr.1
        obtain ⟨r1, r2, r3⟩ := ADo_fr hA
        have g7' : TKS T len m B (mu u.1 55 13 (cn a), u.2) := fun i hi => by
          obtain ⟨a', z1, z2, z3, z4, z5⟩ := g7 i hi
          have e : mu u.1 55 13 (cn a) 66 = u.1 66 := mu_row (by omega)
          exact ⟨a', z1, z2, by show KC T a' _ (mu u.1 55 13 (cn a) 66 _); rw [e]; exact z3, fun x y => by show mu u.1 55 13 (cn a) 66 _ = _; rw [e]; exact z4 x y, by show mu u.1 55 13 (cn a) 66 _ = _; rw [e]; exact z5⟩
        refine pk_some (show ∃ _, _ from ⟨m + 1, fun i => if i = m + 1 then b else B i, rfl, by omega, ?_, ?_, ?_, ?_, ADo_TT (TT_13 g6) hA, TKS_add g7' hA ht ha hk hn, hA.1.trans f1, fun j h1 h2 h3 => ?_, fun c hc => ?_⟩)
        · simp only [if_neg (show ¬ 0 = m + 1 by omega)]; exact g2
        · simp only [if_true]; omega
        · simp only [if_true]; omega
        · simp only [if_true]; exact r3
        · show w.1 j = _
          rw [r1 j h1 h2 h3]; exact (mu_rowP h1).trans (f2 j h1 h2 h3)
        · show w.1 55 c = _
          rw [r2 c hc]; exact (mu_cellP (Or.inr hc)).trans (f3 c hc)
      by_cases hL : ltv (T a) = 0
      · rw [if_pos hL, V_isDigit, b1_some]
        by_cases hD : dgv (T a) = 0
        · rw [if_pos hD, V_addToken (TT_13 g6) (by omega), b1_some]
          refine more _ (a + 1) (T a) (ci 0) ⟨hr, Or.inr ⟨ha, Or.inr (Or.inr ⟨hL, hD, rfl⟩)⟩⟩ (Or.inr (Or.inr ⟨hL, hD, rfl⟩)) (fun x => absurd hD x) ⟨rfl, ?_⟩
          have e : mu (mu (mu (mu (mu u.1 55 13 (cn a)) 65 3 (cn (m + 1))) 66 (m * 3 + 0) (T a)) 66 (m * 3 + 1) (ci 0)) 66 (m * 3 + 2) (cn a) 55 13 = cn a := by
            rw [mu_row (by omega), mu_row (by omega), mu_row (by omega), mu_row (by omega), mu_same]
          show mu (mu (mu (mu (mu (mu u.1 55 13 (cn a)) 65 3 (cn (m + 1))) 66 (m * 3 + 0) (T a)) 66 (m * 3 + 1) (ci 0)) 66 (m * 3 + 2) (cn a)) 55 13 (mu (mu (mu (mu (mu u.1 55 13 (cn a)) 65 3 (cn (m + 1))) 66 (m * 3 + 0) (T a)) 66 (m * 3 + 1) (ci 0)) 66 (m * 3 + 2) (cn a) 55 13 + ci 1) = mu (mu (mu (mu (mu (mu u.1 55 13 (cn a)) 55 13 (cn (a + 1))) 65 3 (cn (m + 1))) 66 (m * 3 + 0) (T a)) 66 (m * 3 + 1) (ci 0)) 66 (m * 3 + 2) (cn a)
          rw [e, cnu (by omega)]
          funext i k
          simp only [mu_ap]
          by_cases h : i = 55 ∧ k = 13
          · rw [if_pos h, if_neg (by omega), if_neg (by omega), if_neg (by omega), if_neg (by omega), if_pos h]
          · rw [if_neg h]
            simp only [if_neg h]
        · rw [if_neg hD]
          refine pk_b1 (V_splitNumber ⟨e64, e9, hb⟩ e13 ha (by omega) (TT_13 g6) hL hD) (fun w q => ?_)
          obtain ⟨b, k, n, q1, q2, q3, q4⟩ := q
          exact more w b k n ⟨hr, Or.inr ⟨ha, Or.inr (Or.inl ⟨hL, hD, q1⟩)⟩⟩ q2 (fun _ => q3) q4
      · rw [if_neg hL]
        refine pk_b1 (V_splitWord ⟨e64, e9, hb⟩ e13 ha (by omega) (TT_13 g6) hL) (fun w q => ?_)
        obtain ⟨b, k, q1, q2, q4⟩ := q
        exact more w b k (ci 0) ⟨hr, Or.inr ⟨ha, Or.inl ⟨hL, q1⟩⟩⟩ q2 (fun x _ => absurd (ltv_dgv hL) x) q4
end
end
/-! 5c.next -/
section
noncomputable section
/-! THE REFERENCE READS THE TAPE -/
def mw (r w : Nat) : Nat := if r = 0 then [20, 21, 22, 23, 24, 25, 41, 42, 43, 44, 45, 46, 47, 48, 49, 3, 4, 5, 6, 1, 1, 1, 1, 1, 1, 1].getD w 1 else if r = 1 then [1, 1, 1, 1, 1, 1, 1, 1, 1, 1, 1, 1, 1, 1, 1, 1, 1, 1, 1, 7, 8, 9, 1, 1, 1, 1].getD w 1 else [1, 1, 1, 1, 1, 1, 1, 1, 1, 1, 1, 1, 1, 1, 1, 1, 1, 1, 1, 1, 1, 1, 10, 11, 12, 13].getD w 1
def KW (r : Nat) (T : Nat → Int32) (a b : Nat) (kr : Int32) : Prop := (∃ w, isWd T a b w ∧ kr = cn (mw r w)) ∨ ((∀ w, ¬ isWd T a b w) ∧ kr = ci 1)
def sg (x : Int32) : Int32 := if x = c8 59 then c8 100 + x else if x = c8 43 then c8 100 + x else if x = c8 45 then c8 100 + x else if x = c8 42 then c8 100 + x else if x = c8 47 then c8 100 + x else if x = c8 40 then c8 100 + x else if x = c8 41 then c8 100 + x else if x = c8 60 then c8 100 + x else if x = c8 61 then c8 100 + x else if x = c8 62 then c8 100 + x else ci 1
def KR (r : Nat) (T : Nat → Int32) (len a b : Nat) (kr : Int32) : Prop := (a = len ∧ kr = 0) ∨ (a < len ∧ ((¬ ltv (T a) = 0 ∧ KW r T a b kr) ∨ (ltv (T a) = 0 ∧ ¬ dgv (T a) = 0 ∧ ((b - a ≤ 4 ∧ kr = ci 2) ∨ (4 < b - a ∧ kr = ci 1))) ∨ (ltv (T a) = 0 ∧ dgv (T a) = 0 ∧ kr = sg (T a))))
section WORDS
variable {s : mG} {T : Nat → Int32} {a b : Nat}
theorem V_wordOfLaw (hT : ∀ k, k < b → s.1 95 k = T k) (h18 : s.1 88 18 = cn a) (h16 : s.1 88 16 = cn b) (hab : a ≤ b) (hb : b ≤ 400) : pk (F_X12_wordOfLaw s) (fun v => (∃ w, isWd T a b w ∧ w < 6 ∧ v = cn (mw 0 w)) ∨ ((∀ w, w < 6 → ¬ isWd T a b w) ∧ v = ci 1)) := by
  unfold F_X12_wordOfLaw
  refine pk_b1 (V_is (j := 13) hT h18 h16 hab hb (by omega)) (fun v0 q0 => ?_)
  rcases q0 with ⟨e0, q0⟩ | ⟨e0, q0⟩
  · subst e0; rw [if_neg (by decide)]; exact pk_some (Or.inl ⟨0, q0, by omega, by decide⟩)
  subst e0
  rw [if_pos (by decide)]
  refine pk_b1 (V_is (j := 14) hT h18 h16 hab hb (by omega)) (fun v1 q1 => ?_)
  rcases q1 with ⟨e1, q1⟩ | ⟨e1, q1⟩
  · subst e1; rw [if_neg (by decide)]; exact pk_some (Or.inl ⟨1, q1, by omega, by decide⟩)
  subst e1
  rw [if_pos (by decide)]
  refine pk_b1 (V_is (j := 15) hT h18 h16 hab hb (by omega)) (fun v2 q2 => ?_)
  rcases q2 with ⟨e2, q2⟩ | ⟨e2, q2⟩
  · subst e2; rw [if_neg (by decide)]; exact pk_some (Or.inl ⟨2, q2, by omega, by decide⟩)
  subst e2
  rw [if_pos (by decide)]
  refine pk_b1 (V_is (j := 16) hT h18 h16 hab hb (by omega)) (fun v3 q3 => ?_)
  rcases q3 with ⟨e3, q3⟩ | ⟨e3, q3⟩
  · subst e3; rw [if_neg (by decide)]; exact pk_some (Or.inl ⟨3, q3, by omega, by decide⟩)
  subst e3
  rw [if_pos (by decide)]
  refine pk_b1 (V_is (j := 17) hT h18 h16 hab hb (by omega)) (fun v4 q4 => ?_)
  rcases q4 with ⟨e4, q4⟩ | ⟨e4, q4⟩
  · subst e4; rw [if_neg (by decide)]; exact pk_some (Or.inl ⟨4, q4, by omega, by decide⟩)
  subst e4
  rw [if_pos (by decide)]
  refine pk_b1 (V_is (j := 18) hT h18 h16 hab hb (by omega)) (fun v5 q5 => ?_)
  rcases q5 with ⟨e5, q5⟩ | ⟨e5, q5⟩
  · subst e5; rw [if_neg (by decide)]; exact pk_some (Or.inl ⟨5, q5, by omega, by decide⟩)
  subst e5
  rw [if_pos (by decide)]
  refine pk_some (Or.inr ⟨fun w hw => ?_, rfl⟩)
  have : w = 0 ∨ w = 1 ∨ w = 2 ∨ w = 3 ∨ w = 4 ∨ w = 5 := by omega
  rcases this with e | e | e | e | e | e <;> subst e <;> assumption
theorem V_asked (hT : ∀ k, k < b → s.1 95 k = T k) (h18 : s.1 88 18 = cn a) (h16 : s.1 88 16 = cn b) (hab : a ≤ b) (hb : b ≤ 400) : pk (F_X12_asked s) (fun v => (∃ w, isWd T a b w ∧ w < 15 ∧ v = cn (mw 0 w)) ∨ ((∀ w, w < 15 → ¬ isWd T a b w) ∧ v = ci 1)) := by
  unfold F_X12_asked
  refine pk_b1 (V_is (j := 4) hT h18 h16 hab hb (by omega)) (fun v0 q0 => ?_)
  rcases q0 with ⟨e0, q0⟩ | ⟨e0, q0⟩
  · subst e0; rw [if_neg (by decide)]; exact pk_some (Or.inl ⟨6, q0, by omega, by decide⟩)
  subst e0
  rw [if_pos (by decide)]
  refine pk_b1 (V_is (j := 5) hT h18 h16 hab hb (by omega)) (fun v1 q1 => ?_)
  rcases q1 with ⟨e1, q1⟩ | ⟨e1, q1⟩
  · subst e1; rw [if_neg (by decide)]; exact pk_some (Or.inl ⟨7, q1, by omega, by decide⟩)
  subst e1
  rw [if_pos (by decide)]
  refine pk_b1 (V_is (j := 6) hT h18 h16 hab hb (by omega)) (fun v2 q2 => ?_)
  rcases q2 with ⟨e2, q2⟩ | ⟨e2, q2⟩
  · subst e2; rw [if_neg (by decide)]; exact pk_some (Or.inl ⟨8, q2, by omega, by decide⟩)
  subst e2
  rw [if_pos (by decide)]
  refine pk_b1 (V_is (j := 7) hT h18 h16 hab hb (by omega)) (fun v3 q3 => ?_)
  rcases q3 with ⟨e3, q3⟩ | ⟨e3, q3⟩
  · subst e3; rw [if_neg (by decide)]; exact pk_some (Or.inl ⟨9, q3, by omega, by decide⟩)
  subst e3
  rw [if_pos (by decide)]
  refine pk_b1 (V_is (j := 8) hT h18 h16 hab hb (by omega)) (fun v4 q4 => ?_)
  rcases q4 with ⟨e4, q4⟩ | ⟨e4, q4⟩
  · subst e4; rw [if_neg (by decide)]; exact pk_some (Or.inl ⟨10, q4, by omega, by decide⟩)
  subst e4
  rw [if_pos (by decide)]
  refine pk_b1 (V_is (j := 9) hT h18 h16 hab hb (by omega)) (fun v5 q5 => ?_)
  rcases q5 with ⟨e5, q5⟩ | ⟨e5, q5⟩
  · subst e5; rw [if_neg (by decide)]; exact pk_some (Or.inl ⟨11, q5, by omega, by decide⟩)
  subst e5
  rw [if_pos (by decide)]
  refine pk_b1 (V_is (j := 10) hT h18 h16 hab hb (by omega)) (fun v6 q6 => ?_)
  rcases q6 with ⟨e6, q6⟩ | ⟨e6, q6⟩
  · subst e6; rw [if_neg (by decide)]; exact pk_some (Or.inl ⟨12, q6, by omega, by decide⟩)
  subst e6
  rw [if_pos (by decide)]
  refine pk_b1 (V_is (j := 11) hT h18 h16 hab hb (by omega)) (fun v7 q7 => ?_)
  rcases q7 with ⟨e7, q7⟩ | ⟨e7, q7⟩
  · subst e7; rw [if_neg (by decide)]; exact pk_some (Or.inl ⟨13, q7, by omega, by decide⟩)
  subst e7
  rw [if_pos (by decide)]
  refine pk_b1 (V_is (j := 12) hT h18 h16 hab hb (by omega)) (fun v8 q8 => ?_)
  rcases q8 with ⟨e8, q8⟩ | ⟨e8, q8⟩
  · subst e8; rw [if_neg (by decide)]; exact pk_some (Or.inl ⟨14, q8, by omega, by decide⟩)
  subst e8
  rw [if_pos (by decide)]
  refine pk_b1 (V_wordOfLaw hT h18 h16 hab hb) (fun v9 q9 => pk_some ?_)
  rcases q9 with ⟨w, h1, h2, h3⟩ | ⟨h1, h2⟩
  · exact Or.inl ⟨w, h1, by omega, h3⟩
  · refine Or.inr ⟨fun w hw => ?_, h2⟩
    by_cases h6 : w < 6
    · exact h1 w h6
    · have : w = 6 ∨ w = 7 ∨ w = 8 ∨ w = 9 ∨ w = 10 ∨ w = 11 ∨ w = 12 ∨ w = 13 ∨ w = 14 := by omega
      rcases this with e | e | e | e | e | e | e | e | e <;> subst e <;> assumption
theorem V_lawWord (hT : ∀ k, k < b → s.1 95 k = T k) (h18 : s.1 88 18 = cn a) (h16 : s.1 88 16 = cn b) (hab : a ≤ b) (hb : b ≤ 400) : pk (F_X12_lawWord s) (fun v => (∃ w, isWd T a b w ∧ w < 19 ∧ v = cn (mw 0 w)) ∨ ((∀ w, w < 19 → ¬ isWd T a b w) ∧ v = ci 1)) := by
  unfold F_X12_lawWord
  refine pk_b1 (V_is (j := 0) hT h18 h16 hab hb (by omega)) (fun v0 q0 => ?_)
  rcases q0 with ⟨e0, q0⟩ | ⟨e0, q0⟩
  · subst e0; rw [if_neg (by decide)]; exact pk_some (Or.inl ⟨15, q0, by omega, by decide⟩)
  subst e0
  rw [if_pos (by decide)]
  refine pk_b1 (V_is (j := 1) hT h18 h16 hab hb (by omega)) (fun v1 q1 => ?_)
  rcases q1 with ⟨e1, q1⟩ | ⟨e1, q1⟩
  · subst e1; rw [if_neg (by decide)]; exact pk_some (Or.inl ⟨16, q1, by omega, by decide⟩)
  subst e1
  rw [if_pos (by decide)]
  refine pk_b1 (V_is (j := 2) hT h18 h16 hab hb (by omega)) (fun v2 q2 => ?_)
  rcases q2 with ⟨e2, q2⟩ | ⟨e2, q2⟩
  · subst e2; rw [if_neg (by decide)]; exact pk_some (Or.inl ⟨17, q2, by omega, by decide⟩)
  subst e2
  rw [if_pos (by decide)]
  refine pk_b1 (V_is (j := 3) hT h18 h16 hab hb (by omega)) (fun v3 q3 => ?_)
  rcases q3 with ⟨e3, q3⟩ | ⟨e3, q3⟩
  · subst e3; rw [if_neg (by decide)]; exact pk_some (Or.inl ⟨18, q3, by omega, by decide⟩)
  subst e3
  rw [if_pos (by decide)]
  refine pk_b1 (V_asked hT h18 h16 hab hb) (fun v9 q9 => pk_some ?_)
  rcases q9 with ⟨w, h1, h2, h3⟩ | ⟨h1, h2⟩
  · exact Or.inl ⟨w, h1, by omega, h3⟩
  · refine Or.inr ⟨fun w hw => ?_, h2⟩
    by_cases h6 : w < 15
    · exact h1 w h6
    · have : w = 15 ∨ w = 16 ∨ w = 17 ∨ w = 18 := by omega
      rcases this with e | e | e | e <;> subst e <;> assumption
theorem V_signWord (hT : ∀ k, k < b → s.1 95 k = T k) (h18 : s.1 88 18 = cn a) (h16 : s.1 88 16 = cn b) (hab : a ≤ b) (hb : b ≤ 400) : pk (F_X12_signWord s) (KW 1 T a b) := by
  unfold F_X12_signWord
  refine pk_b1 (V_is (j := 19) hT h18 h16 hab hb (by omega)) (fun v0 q0 => ?_)
  rcases q0 with ⟨e0, q0⟩ | ⟨e0, q0⟩
  · subst e0; rw [if_neg (by decide)]; exact pk_some (Or.inl ⟨19, q0, by decide⟩)
  subst e0
  rw [if_pos (by decide)]
  refine pk_b1 (V_is (j := 20) hT h18 h16 hab hb (by omega)) (fun v1 q1 => ?_)
  rcases q1 with ⟨e1, q1⟩ | ⟨e1, q1⟩
  · subst e1; rw [if_neg (by decide)]; exact pk_some (Or.inl ⟨20, q1, by decide⟩)
  subst e1
  rw [if_pos (by decide)]
  refine pk_b1 (V_is (j := 21) hT h18 h16 hab hb (by omega)) (fun v2 q2 => ?_)
  rcases q2 with ⟨e2, q2⟩ | ⟨e2, q2⟩
  · subst e2; rw [if_neg (by decide)]; exact pk_some (Or.inl ⟨21, q2, by decide⟩)
  subst e2
  rw [if_pos (by decide)]
  by_cases hex : ∃ w, isWd T a b w
  · obtain ⟨w, hw⟩ := hex
    refine pk_some (Or.inl ⟨w, hw, ?_⟩)
    have h26 := hw.1
    have n19 : w ≠ 19 := fun e => by subst e; contradiction
    have n20 : w ≠ 20 := fun e => by subst e; contradiction
    have n21 : w ≠ 21 := fun e => by subst e; contradiction
    have f : ∀ w, w < 26 → w ≠ 19 → w ≠ 20 → w ≠ 21 → mw 1 w = 1 := by decide +kernel
    rw [f w h26 n19 n20 n21]; rfl
  · exact pk_some (Or.inr ⟨fun w hw => hex ⟨w, hw⟩, rfl⟩)
theorem V_shiftWord (hT : ∀ k, k < b → s.1 95 k = T k) (h18 : s.1 88 18 = cn a) (h16 : s.1 88 16 = cn b) (hab : a ≤ b) (hb : b ≤ 400) : pk (F_X12_shiftWord s) (KW 2 T a b) := by
  unfold F_X12_shiftWord
  refine pk_b1 (V_is (j := 22) hT h18 h16 hab hb (by omega)) (fun v0 q0 => ?_)
  rcases q0 with ⟨e0, q0⟩ | ⟨e0, q0⟩
  · subst e0; rw [if_neg (by decide)]; exact pk_some (Or.inl ⟨22, q0, by decide⟩)
  subst e0
  rw [if_pos (by decide)]
  refine pk_b1 (V_is (j := 23) hT h18 h16 hab hb (by omega)) (fun v1 q1 => ?_)
  rcases q1 with ⟨e1, q1⟩ | ⟨e1, q1⟩
  · subst e1; rw [if_neg (by decide)]; exact pk_some (Or.inl ⟨23, q1, by decide⟩)
  subst e1
  rw [if_pos (by decide)]
  refine pk_b1 (V_is (j := 24) hT h18 h16 hab hb (by omega)) (fun v2 q2 => ?_)
  rcases q2 with ⟨e2, q2⟩ | ⟨e2, q2⟩
  · subst e2; rw [if_neg (by decide)]; exact pk_some (Or.inl ⟨24, q2, by decide⟩)
  subst e2
  rw [if_pos (by decide)]
  refine pk_b1 (V_is (j := 25) hT h18 h16 hab hb (by omega)) (fun v3 q3 => ?_)
  rcases q3 with ⟨e3, q3⟩ | ⟨e3, q3⟩
  · subst e3; rw [if_neg (by decide)]; exact pk_some (Or.inl ⟨25, q3, by decide⟩)
  subst e3
  rw [if_pos (by decide)]
  by_cases hex : ∃ w, isWd T a b w
  · obtain ⟨w, hw⟩ := hex
    refine pk_some (Or.inl ⟨w, hw, ?_⟩)
    have h26 := hw.1
    have n22 : w ≠ 22 := fun e => by subst e; contradiction
    have n23 : w ≠ 23 := fun e => by subst e; contradiction
    have n24 : w ≠ 24 := fun e => by subst e; contradiction
    have n25 : w ≠ 25 := fun e => by subst e; contradiction
    have f : ∀ w, w < 26 → w ≠ 22 → w ≠ 23 → w ≠ 24 → w ≠ 25 → mw 2 w = 1 := by decide +kernel
    rw [f w h26 n22 n23 n24 n25]; rfl
  · exact pk_some (Or.inr ⟨fun w hw => hex ⟨w, hw⟩, rfl⟩)
theorem V_word (hT : ∀ k, k < b → s.1 95 k = T k) (h18 : s.1 88 18 = cn a) (h16 : s.1 88 16 = cn b) (hab : a ≤ b) (hb : b ≤ 400) {r : Nat} (hr : r < 3) (h11 : s.1 88 11 = cn r) : pk (F_X12_word s) (KW r T a b) := by
  unfold F_X12_word
  rw [h11]
  have : r = 0 ∨ r = 1 ∨ r = 2 := by omega
  rcases this with e | e | e
  · subst e
    rw [if_pos (by decide)]
    refine pk_b1 (V_lawWord hT h18 h16 hab hb) (fun v q => pk_some ?_)
    rcases q with ⟨w, h1, h2, h3⟩ | ⟨h1, h2⟩
    · exact Or.inl ⟨w, h1, h3⟩
    · by_cases hex : ∃ w, isWd T a b w
      · obtain ⟨w, hw⟩ := hex
        have h26 := hw.1
        have hn : 19 ≤ w := Nat.le_of_not_lt fun q => h1 w q hw
        have f : ∀ w, w < 26 → 19 ≤ w → mw 0 w = 1 := by decide +kernel
        exact Or.inl ⟨w, hw, by rw [f w h26 hn]; exact h2⟩
      · exact Or.inr ⟨fun w hw => hex ⟨w, hw⟩, h2⟩
  · subst e
    rw [if_neg (by decide), if_pos (by decide)]
    exact pk_b1 (V_signWord hT h18 h16 hab hb) (fun v q => pk_some q)
  · subst e
    rw [if_neg (by decide), if_neg (by decide)]
    exact pk_b1 (V_shiftWord hT h18 h16 hab hb) (fun v q => pk_some q)
end WORDS
theorem V_see {s : mG} {T : Nat → Int32} {len k : Nat} (hT : ∀ k, k < len → s.1 95 k = T k) (hl : s.1 88 15 = cn len) (hlen : len ≤ 400) (hk : k ≤ len) : F_X12_see s (cn k) = some (if k < len then T k else ci (-1)) := by
  unfold F_X12_see
  rw [hl]
  by_cases h : k < len
  · rw [if_neg (fun q => absurd ((cn_le (by omega) (by omega)).mp q) (by omega)), if_neg (cn_ix (by omega) (by omega)), if_pos h, cn_nat (by omega), hT k h]
  · rw [if_pos ((cn_le (by omega) (by omega)).mpr (by omega)), if_neg h]
theorem mu_sameQ {D : Nat → Nat → Int32} {E : Nat → Nat → Int64} {i k : Nat} {v : Int32} : ((mu D i k v, E) : mG).1 i k = v := mu_same
theorem mu_cellQ {D : Nat → Nat → Int32} {E : Nat → Nat → Int64} {i j k l : Nat} {v : Int32} (h : j ≠ i ∨ l ≠ k) : ((mu D i k v, E) : mG).1 j l = D j l := mu_cell h
theorem mu_rowQ {D : Nat → Nat → Int32} {E : Nat → Nat → Int64} {i j k : Nat} {v : Int32} (h : j ≠ i) : ((mu D i k v, E) : mG).1 j = D j := mu_row h
/-- what reading one token leaves -/
def NF (s u : mG) : Prop := u.2 = s.2 ∧ (∀ j, j ≠ 88 → u.1 j = s.1 j) ∧ ∀ c, c ≠ 16 → c ≠ 17 → c ≠ 18 → c ≠ 19 → u.1 88 c = s.1 88 c
theorem NF_mu {s u : mG} {c : Nat} {v : Int32} (h : NF s u) (hc : 16 ≤ c ∧ c ≤ 19) : NF s (mu u.1 88 c v, u.2) :=
  ⟨h.1, fun j hj => (mu_rowQ hj).trans (h.2.1 j hj), fun d h1 h2 h3 h4 => (mu_cellQ (j := 88) (l := d) (Or.inr (by omega))).trans (h.2.2 d h1 h2 h3 h4)⟩
def NXT (r : Nat) (T : Nat → Int32) (len p : Nat) (s u : mG) : Prop := NF s u ∧ ∃ a b, Tok T len p a b ∧ u.1 88 18 = cn a ∧ u.1 88 16 = cn b ∧ KR r T len a b (u.1 88 17) ∧ (a < len → ltv (T a) = 0 → ¬ dgv (T a) = 0 → b - a ≤ 4 → u.1 88 19 = nv T a (b - a))
theorem bk_ne {x : Int32} (h1 : ¬ x = c8 32) (h2 : ¬ x = c8 10) : bkv x = 0 := by
  unfold bkv
  rw [if_neg h1, if_neg h2]; decide
theorem V_284 {x : Int32} {s : mG} : F_X12_next0_284 x s = some (mu s.1 88 17 (c8 100 + x), s.2) := by
  unfold F_X12_next0_284 F_X12_next0_289 F_X12_next0_303
  exact if_neg (by decide)
theorem V_289 {x : Int32} {s : mG} : F_X12_next0_289 x (ci 0) s = some (mu s.1 88 17 (ci 1), s.2) := by
  unfold F_X12_next0_289 F_X12_next0_303
  exact if_pos (by decide)
theorem V_next0 {s : mG} {T : Nat → Int32} {len p r : Nat} (hT : ∀ k, k < len → s.1 95 k = T k) (hl : s.1 88 15 = cn len) (hlen : len ≤ 400) (hr : r < 3) (h11 : s.1 88 11 = cn r) (h16 : s.1 88 16 = cn p) (hp : p ≤ len) (hB : ∀ k, k < len → 0 ≤ (T k).toInt) : pk (F_X12_next0 s) (NXT r T len p s) := by
  unfold F_X12_next0 F_X12_next0_L0
  refine pk_whl (fun u => NF s u ∧ ∃ q, p ≤ q ∧ q ≤ len ∧ (∀ k, p ≤ k → k < q → ¬ bkv (T k) = 0) ∧ u.1 88 16 = cn q) ⟨⟨rfl, fun _ _ => rfl, fun _ _ _ _ _ => rfl⟩, p, Nat.le_refl _, hp, fun k h1 h2 => absurd h1 (by omega), h16⟩ (fun u hu => ?_)
  obtain ⟨nf, q, g1, g2, g3, g4⟩ := hu
  have uT : ∀ k, k < len → u.1 95 k = T k := fun k hk => (congrFun (nf.2.1 95 (by decide)) k).trans (hT k hk)
  have ul : u.1 88 15 = cn len := (nf.2.2 15 (by decide) (by decide) (by decide) (by decide)).trans hl
  have u11 : u.1 88 11 = cn r := (nf.2.2 11 (by decide) (by decide) (by decide) (by decide)).trans h11
  have more : (q < len ∧ ¬ bkv (T q) = 0) → pk (F_X12_next0_26 u) (se (fun u => NF s u ∧ ∃ q, p ≤ q ∧ q ≤ len ∧ (∀ k, p ≤ k → k < q → ¬ bkv (T k) = 0) ∧ u.1 88 16 = cn q) (NXT r T len p s)) := by
    intro hq
    unfold F_X12_next0_26
    rw [g4, cnu (by omega)]
    refine pk_some (show NF s _ ∧ _ from ⟨NF_mu nf (by omega), q + 1, by omega, by omega, fun k h1 h2 => ?_, mu_sameQ⟩)
    by_cases hk : k = q
    · subst hk; exact hq.2
    · exact g3 k h1 (by omega)
  unfold F_X12_next0_B0
  rw [g4, V_see uT ul hlen g2, b1_some, b1_some]
  by_cases hq : q < len
  · simp only [if_pos hq]
    by_cases k1 : T q = c8 32
    · rw [if_pos k1]; exact more ⟨hq, by rw [k1]; decide⟩
    rw [if_neg k1]
    by_cases k2 : T q = c8 10
    · rw [if_pos k2]; exact more ⟨hq, by rw [k2]; decide⟩
    rw [if_neg k2]
    have hrun : Run bkv T len p q := ⟨g1, g2, g3, Or.inr (bk_ne k1 k2)⟩
    have nf8 : NF s (mu u.1 88 18 (cn q), u.2) := NF_mu nf (by omega)
    have e18 : (mu u.1 88 18 (cn q), u.2).1 88 18 = cn q := mu_sameQ
    have e16 : (mu u.1 88 18 (cn q), u.2).1 88 16 = cn q := (mu_cellQ (by omega)).trans g4
    have e15 : (mu u.1 88 18 (cn q), u.2).1 88 15 = cn len := (mu_cellQ (by omega)).trans ul
    have e11 : (mu u.1 88 18 (cn q), u.2).1 88 11 = cn r := (mu_cellQ (by omega)).trans u11
    have eT : ∀ k, k < len → (mu u.1 88 18 (cn q), u.2).1 95 k = T k := fun k hk => (congrFun (mu_rowQ (by omega)) k).trans (uT k hk)
    try dsimp only
    have f18 : mu u.1 88 18 (cn q) 88 18 = cn q := e18
    have f16 : mu u.1 88 18 (cn q) 88 16 = cn q := e16
    generalize mu u.1 88 18 (cn q) = D at *
    rw [f16, V_see eT e15 hlen g2, b1_some, if_pos hq]
    have nm1 : ¬ T q = ci (-1) := fun e => by
      have h := hB q hq
      rw [e, t_cm1] at h
      omega
    rw [if_neg nm1, V_isLetter12, b1_some, V_isDigit12, b1_some]
    by_cases hL : ltv (T q) = 0
    · rw [if_pos hL]
      by_cases hD : dgv (T q) = 0
      · rw [if_pos hD, cnu (by omega)]
        have fin : ∀ v, v = sg (T q) → pk (b1 (some ((mu (mu D 88 16 (cn (q + 1))) 88 17 v, u.2) : mG)) fun τ => some (Sum.inr τ)) (se (fun u => NF s u ∧ ∃ q, p ≤ q ∧ q ≤ len ∧ (∀ k, p ≤ k → k < q → ¬ bkv (T k) = 0) ∧ u.1 88 16 = cn q) (NXT r T len p s)) := by
          intro v hv
          rw [b1_some]
          refine pk_some (show NXT r T len p s _ from ⟨NF_mu (NF_mu nf8 (by omega)) (by omega), q, q + 1, ⟨hrun, Or.inr ⟨hq, Or.inr (Or.inr ⟨hL, hD, rfl⟩)⟩⟩, ?_, ?_, Or.inr ⟨hq, Or.inr (Or.inr ⟨hL, hD, mu_sameQ.trans hv⟩)⟩, fun _ _ h => absurd hD h⟩)
          · exact (mu_cellQ (by omega)).trans ((mu_cell (by omega)).trans e18)
          · exact (mu_cellQ (by omega)).trans mu_same
        by_cases k59 : T q = c8 59
        · rw [if_pos k59, V_284]
          exact fin _ (by unfold sg; rw [if_pos k59])
        rw [if_neg k59]
        by_cases k43 : T q = c8 43
        · rw [if_pos k43, V_284]
          exact fin _ (by unfold sg; rw [if_neg k59, if_pos k43])
        rw [if_neg k43]
        by_cases k45 : T q = c8 45
        · rw [if_pos k45, V_284]
          exact fin _ (by unfold sg; rw [if_neg k59, if_neg k43, if_pos k45])
        rw [if_neg k45]
        by_cases k42 : T q = c8 42
        · rw [if_pos k42, V_284]
          exact fin _ (by unfold sg; rw [if_neg k59, if_neg k43, if_neg k45, if_pos k42])
        rw [if_neg k42]
        by_cases k47 : T q = c8 47
        · rw [if_pos k47, V_284]
          exact fin _ (by unfold sg; rw [if_neg k59, if_neg k43, if_neg k45, if_neg k42, if_pos k47])
        rw [if_neg k47]
        by_cases k40 : T q = c8 40
        · rw [if_pos k40, V_284]
          exact fin _ (by unfold sg; rw [if_neg k59, if_neg k43, if_neg k45, if_neg k42, if_neg k47, if_pos k40])
        rw [if_neg k40]
        by_cases k41 : T q = c8 41
        · rw [if_pos k41, V_284]
          exact fin _ (by unfold sg; rw [if_neg k59, if_neg k43, if_neg k45, if_neg k42, if_neg k47, if_neg k40, if_pos k41])
        rw [if_neg k41]
        by_cases k60 : T q = c8 60
        · rw [if_pos k60, V_284]
          exact fin _ (by unfold sg; rw [if_neg k59, if_neg k43, if_neg k45, if_neg k42, if_neg k47, if_neg k40, if_neg k41, if_pos k60])
        rw [if_neg k60]
        by_cases k61 : T q = c8 61
        · rw [if_pos k61, V_284]
          exact fin _ (by unfold sg; rw [if_neg k59, if_neg k43, if_neg k45, if_neg k42, if_neg k47, if_neg k40, if_neg k41, if_neg k60, if_pos k61])
        rw [if_neg k61]
        by_cases k62 : T q = c8 62
        · rw [if_pos k62, V_284]
          exact fin _ (by unfold sg; rw [if_neg k59, if_neg k43, if_neg k45, if_neg k42, if_neg k47, if_neg k40, if_neg k41, if_neg k60, if_neg k61, if_pos k62])
        rw [if_neg k62]
        rw [V_289]
        exact fin _ (by unfold sg; rw [if_neg k59, if_neg k43, if_neg k45, if_neg k42, if_neg k47, if_neg k40, if_neg k41, if_neg k60, if_neg k61, if_neg k62])
      · rw [if_neg hD]
        unfold F_X12_next0_L126
        refine pk_b1r (pk_whl (fun u => NF s u ∧ u.1 88 18 = cn q ∧ ∃ b, q ≤ b ∧ b ≤ len ∧ (∀ k, q ≤ k → k < b → ¬ dgv (T k) = 0) ∧ u.1 88 16 = cn b ∧ (b - q ≤ 4 → u.1 88 19 = nv T q (b - q))) ⟨NF_mu nf8 (by omega), (mu_cellQ (by omega)).trans e18, q, Nat.le_refl _, g2, fun k h1 h2 => absurd h1 (by omega), (mu_cellQ (by omega)).trans e16, fun _ => by rw [Nat.sub_self]; exact mu_sameQ⟩ (fun u hu => ?_))
        obtain ⟨nfu, u18, b, bb1, bb2, bb3, u16, u19⟩ := hu
        have vT : ∀ k, k < len → u.1 95 k = T k := fun k hk => (congrFun (nfu.2.1 95 (by decide)) k).trans (hT k hk)
        have vl : u.1 88 15 = cn len := (nfu.2.2 15 (by decide) (by decide) (by decide) (by decide)).trans hl
        have fin : (b = len ∨ dgv (T b) = 0) → pk (if (ci 5) ≤ (cn b - cn q) then b1 (F_X12_next0_208 (ci 1) u) fun τ => some (Sum.inr τ) else b1 (F_X12_next0_208 (ci 2) u) fun τ => some (Sum.inr τ)) (se (fun u => NF s u ∧ u.1 88 18 = cn q ∧ ∃ b, q ≤ b ∧ b ≤ len ∧ (∀ k, q ≤ k → k < b → ¬ dgv (T k) = 0) ∧ u.1 88 16 = cn b ∧ (b - q ≤ 4 → u.1 88 19 = nv T q (b - q))) (NXT r T len p s)) := by
          intro hf
          have ht : Tok T len p q b := ⟨hrun, Or.inr ⟨hq, Or.inr (Or.inl ⟨hL, hD, bb1, bb2, bb3, hf⟩)⟩⟩
          unfold F_X12_next0_208
          dsimp only
          rw [cn_sub bb1 (by omega), b1_some, b1_some]
          by_cases h5 : 5 ≤ b - q
          · rw [if_pos ((cle (x := ci 5) (a := 5) (y := cn (b - q)) rfl rfl (by omega) (by omega)).mpr h5)]
            exact pk_some (show NXT r T len p s _ from ⟨NF_mu nfu (by omega), q, b, ht, (mu_cellQ (by omega)).trans u18, (mu_cellQ (by omega)).trans u16, Or.inr ⟨hq, Or.inr (Or.inl ⟨hL, hD, Or.inr ⟨by omega, mu_sameQ⟩⟩)⟩, fun _ _ _ h => absurd h (by omega)⟩)
          · rw [if_neg (fun z => h5 ((cle (x := ci 5) (a := 5) (y := cn (b - q)) rfl rfl (by omega) (by omega)).mp z))]
            exact pk_some (show NXT r T len p s _ from ⟨NF_mu nfu (by omega), q, b, ht, (mu_cellQ (by omega)).trans u18, (mu_cellQ (by omega)).trans u16, Or.inr ⟨hq, Or.inr (Or.inl ⟨hL, hD, Or.inl ⟨by omega, mu_sameQ⟩⟩)⟩, fun _ _ _ _ => (mu_cellQ (by omega)).trans (u19 (by omega))⟩)
        unfold F_X12_next0_B126 F_X12_next0_176
        rw [u16, u18, V_see vT vl hlen bb2, b1_some, V_isDigit12, b1_some, b1_some]
        by_cases hbl : b < len
        · simp only [if_pos hbl]
          by_cases hk : dgv (T b) = 0
          · rw [if_pos hk]; exact fin (Or.inr hk)
          · rw [if_neg hk, show cn q + ci 4 = cn (q + 4) from cn_add (b := 4) (by omega)]
            have run : ∀ k, q ≤ k → k < b + 1 → ¬ dgv (T k) = 0 := fun k h1 h2 => by
              by_cases hkb : k = b
              · subst hkb; exact hk
              · exact bb3 k h1 (by omega)
            by_cases h4 : q + 4 ≤ b
            · rw [if_pos ((cn_le (by omega) (by omega)).mpr h4)]
              exact pk_some (show NF s _ ∧ _ from ⟨NF_mu nfu (by omega), (mu_cellQ (by omega)).trans u18, b + 1, by omega, by omega, run, by rw [cnu (by omega)]; exact mu_sameQ, fun z => absurd z (by omega)⟩)
            · rw [if_neg (fun z => h4 ((cn_le (by omega) (by omega)).mp z))]
              refine pk_some (show NF s _ ∧ _ from ⟨NF_mu (NF_mu nfu (by omega)) (by omega), (mu_cellQ (by omega)).trans ((mu_cell (by omega)).trans u18), b + 1, by omega, by omega, run, ?_, fun _ => ?_⟩)
              · refine mu_sameQ.trans ?_
                show mu u.1 88 19 (((c8 10 * u.1 88 19) + T b) - c8 48) 88 16 + ci 1 = _
                rw [mu_cell (by omega), u16, cnu (by omega)]
              · refine (mu_cellQ (by omega)).trans (mu_same.trans ?_)
                rw [u19 (by omega), show b + 1 - q = (b - q) + 1 by omega]
                show _ = ((nv T q (b - q) * c8 10) + T (q + (b - q))) - c8 48
                rw [show q + (b - q) = b by omega, Int32.mul_comm]
        · simp only [if_neg hbl]
          rw [if_pos dgv_m1]; exact fin (Or.inl (by omega))
    · rw [if_neg hL]
      unfold F_X12_next0_L76
      refine pk_b1r (pk_whl (fun u => NF s u ∧ u.1 88 18 = cn q ∧ ∃ b, q ≤ b ∧ b ≤ len ∧ (∀ k, q ≤ k → k < b → ¬ ltv (T k) = 0) ∧ u.1 88 16 = cn b) ⟨nf8, e18, q, Nat.le_refl _, g2, fun k h1 h2 => absurd h1 (by omega), e16⟩ (fun u hu => ?_))
      obtain ⟨nfu, u18, b, bb1, bb2, bb3, u16⟩ := hu
      have vT : ∀ k, k < len → u.1 95 k = T k := fun k hk => (congrFun (nfu.2.1 95 (by decide)) k).trans (hT k hk)
      have vl : u.1 88 15 = cn len := (nfu.2.2 15 (by decide) (by decide) (by decide) (by decide)).trans hl
      have v11 : u.1 88 11 = cn r := (nfu.2.2 11 (by decide) (by decide) (by decide) (by decide)).trans h11
      have fin : (b = len ∨ ltv (T b) = 0) → pk (b1 (F_X12_word u) fun v51 => let s52 : mG := (mu u.1 88 17 v51, u.2); some (Sum.inr s52)) (se (fun u => NF s u ∧ u.1 88 18 = cn q ∧ ∃ b, q ≤ b ∧ b ≤ len ∧ (∀ k, q ≤ k → k < b → ¬ ltv (T k) = 0) ∧ u.1 88 16 = cn b) (NXT r T len p s)) := by
        intro hf
        refine pk_b1 (V_word (fun k hk => vT k (by omega)) u18 u16 bb1 (by omega) hr v11) (fun v hv => ?_)
        exact pk_some (show NXT r T len p s _ from ⟨NF_mu nfu (by omega), q, b, ⟨hrun, Or.inr ⟨hq, Or.inl ⟨hL, bb1, bb2, bb3, hf⟩⟩⟩, (mu_cellQ (by omega)).trans u18, (mu_cellQ (by omega)).trans u16, Or.inr ⟨hq, Or.inl ⟨hL, by rw [show ((mu u.1 88 17 v, u.2) : mG).1 88 17 = v from mu_sameQ]; exact hv⟩⟩, fun _ h => absurd h hL⟩)
      unfold F_X12_next0_B76
      rw [u16, V_see vT vl hlen bb2, b1_some, V_isLetter12, b1_some]
      by_cases hbl : b < len
      · simp only [if_pos hbl]
        by_cases hk : ltv (T b) = 0
        · rw [if_pos hk]; exact fin (Or.inr hk)
        · rw [if_neg hk, cnu (by omega)]
          refine pk_some (show NF s _ ∧ _ from ⟨NF_mu nfu (by omega), (mu_cellQ (by omega)).trans u18, b + 1, by omega, by omega, fun k h1 h2 => ?_, mu_sameQ⟩)
          by_cases hkb : k = b
          · subst hkb; exact hk
          · exact bb3 k h1 (by omega)
      · simp only [if_neg hbl]
        rw [if_pos lt2_m1]; exact fin (Or.inl (by omega))
  · simp only [if_neg hq]
    have eq : q = len := by omega
    subst eq
    have e16 : (mu u.1 88 18 (cn q), u.2).1 88 16 = cn q := (mu_cellQ (by omega)).trans g4
    have e15 : (mu u.1 88 18 (cn q), u.2).1 88 15 = cn q := (mu_cellQ (by omega)).trans ul
    have eT : ∀ k, k < q → (mu u.1 88 18 (cn q), u.2).1 95 k = T k := fun k hk => (congrFun (mu_rowQ (by omega)) k).trans (uT k hk)
    rw [if_neg (by decide), if_neg (by decide)]
    try dsimp only
    rw [show (mu u.1 88 18 (cn q)) 88 16 = cn q from e16, V_see eT e15 hlen (Nat.le_refl _), b1_some, if_neg hq, if_pos rfl]
    refine pk_some (show NXT r T q p s _ from ⟨NF_mu (NF_mu nf (by omega)) (by omega), q, q, ⟨⟨g1, g2, g3, Or.inl rfl⟩, Or.inl ⟨rfl, rfl⟩⟩, ?_, ?_, Or.inl ⟨rfl, ?_⟩, fun h => absurd h (by omega)⟩)
    · exact (mu_cellQ (by omega)).trans mu_same
    · exact (mu_cellQ (by omega)).trans e16
    · exact mu_sameQ.trans c0e0
end
end
/-! 5d.kinds -/
section
noncomputable section
/-! KINDS OF TOKENS, here and there -/
def mkI (r : Nat) (z : Int) : Int := if z = -1 then 0 else if z = -2 then 2 else if z < 0 then 1 else if z < 256 then (if z = 59 ∨ z = 43 ∨ z = 45 ∨ z = 42 ∨ z = 47 ∨ z = 40 ∨ z = 41 ∨ z = 60 ∨ z = 61 ∨ z = 62 then 100 + z else 1) else ((mw r (z - 256).toNat : Nat) : Int)
def KP (r : Nat) (kc kr : Int32) : Prop := kr.toInt = mkI r kc.toInt ∧ -3 ≤ kc.toInt ∧ kc.toInt ≤ 281
theorem mw_lt : ∀ r, r < 3 → ∀ w, w < 26 → mw r w < 100 := by decide +kernel
theorem KP_end {r : Nat} : KP r (ci (-1)) 0 := ⟨by rw [t_cm1, t_zero]; rfl, by rw [t_cm1]; omega, by rw [t_cm1]; omega⟩
theorem sg_t {x : Int32} (h0 : 0 ≤ x.toInt) (h1 : x.toInt ≤ 255) : (sg x).toInt = mkI 0 x.toInt := by
  have hb : ∀ n : Nat, n < 256 → (sg (cn n)).toInt = mkI 0 (n : Int) := by decide +kernel
  have e := cnof h0
  have h2 := hb x.toInt.toNat (by omega)
  rw [← e] at h2
  rw [h2, show ((x.toInt.toNat : Nat) : Int) = x.toInt by omega]
theorem mkI_byte {r : Nat} {z : Int} (h0 : 0 ≤ z) (h1 : z ≤ 255) : mkI r z = mkI 0 z := by
  have e : ∀ r, mkI r z = if z = 59 ∨ z = 43 ∨ z = 45 ∨ z = 42 ∨ z = 47 ∨ z = 40 ∨ z = 41 ∨ z = 60 ∨ z = 61 ∨ z = 62 then 100 + z else 1 := fun r => by
    unfold mkI
    rw [if_neg (by omega), if_neg (by omega), if_neg (by omega), if_pos (by omega)]
  rw [e r, e 0]
theorem isWd_one {T : Nat → Int32} {a b w v : Nat} (h : isWd T a b w) (k : isWd T a b v) : w = v := w_f6 w h.1 v k.1 (h.2.symm.trans k.2)
theorem KC_KR {r : Nat} {T : Nat → Int32} {len a b : Nat} {kc kr : Int32} (hr : r < 3) (hB : 0 ≤ (T a).toInt ∧ (T a).toInt ≤ 255) (ha : a < len) (h1 : KC T a b kc) (h2 : KR r T len a b kr) : KP r kc kr := by
  rcases h2 with ⟨q, _⟩ | ⟨_, h2⟩
  · omega
  rcases h1 with ⟨l1, h1⟩ | ⟨l1, d1, h1⟩ | ⟨l1, d1, h1⟩ <;> rcases h2 with ⟨l2, h2⟩ | ⟨l2, d2, h2⟩ | ⟨l2, d2, h2⟩ <;> first
    | exact absurd l2 l1
    | exact absurd l1 l2
    | exact absurd d2 d1
    | exact absurd d1 d2
    | skip
  · rcases h1 with ⟨w, hw, e⟩ | ⟨hn, e⟩
    · have h26 := hw.1
      have e1 : kc.toInt = 256 + (w : Int) := by
        rw [e]; exact r_add (by decide : (c16 256).toInt = 256) (t_cn (by omega)) (by omega) (by omega)
      have e2 : kr.toInt = ((mw r w : Nat) : Int) := by
        rcases h2 with ⟨v, hv, e2⟩ | ⟨hn, _⟩
        · have := isWd_one hw hv
          subst this
          rw [e2]; exact t_cn (by have := mw_lt r hr w h26; omega)
        · exact absurd hw (hn w)
      refine ⟨?_, by omega, by omega⟩
      rw [e1, e2]
      unfold mkI
      rw [if_neg (by omega), if_neg (by omega), if_neg (by omega), if_neg (by omega), show (256 + (w : Int) - 256).toNat = w by omega]
    · have e1 : kc.toInt = -3 := by rw [e]; decide
      have e2 : kr.toInt = 1 := by
        rcases h2 with ⟨v, hv, _⟩ | ⟨_, e2⟩
        · exact absurd hv (hn v)
        · rw [e2]; decide
      refine ⟨?_, by omega, by omega⟩
      rw [e1, e2]; rfl
  · rcases h1 with ⟨q1, e⟩ | ⟨q1, e⟩ <;> rcases h2 with ⟨q2, e2⟩ | ⟨q2, e2⟩
    · refine ⟨?_, ?_, ?_⟩ <;> rw [e]
      · rw [e2]; decide +revert
      · decide
      · decide
    · omega
    · omega
    · refine ⟨?_, ?_, ?_⟩ <;> rw [e]
      · rw [e2]; decide +revert
      · decide
      · decide
  · subst h1; subst h2
    exact ⟨(sg_t hB.1 hB.2).trans (mkI_byte hB.1 hB.2).symm, by omega, by omega⟩
theorem KP_iff {r : Nat} {kc kr K K' : Int32} {v z : Int} (hK : K.toInt = v) (hK' : K'.toInt = z) (hd : ∀ n : Nat, n < 285 → (mkI r ((n : Int) - 3) = v ↔ ((n : Int) - 3) = z)) (h : KP r kc kr) : kr = K ↔ kc = K' := by
  obtain ⟨h1, h2, h3⟩ := h
  have hn := hd (kc.toInt + 3).toNat (by omega)
  rw [show (((kc.toInt + 3).toNat : Nat) : Int) - 3 = kc.toInt by omega, ← h1] at hn
  constructor
  · intro e
    exact Int32.toInt_inj.mp ((hn.mp (by rw [e, hK])).trans hK'.symm)
  · intro e
    exact Int32.toInt_inj.mp ((hn.mpr (by rw [e, hK'])).trans hK.symm)
/-- two ranges -/
theorem KP_rng {r : Nat} {kc kr : Int32} {v w z y : Int} (hd : ∀ n : Nat, n < 285 → ((v ≤ mkI r ((n : Int) - 3) ∧ mkI r ((n : Int) - 3) ≤ w) ↔ (z ≤ ((n : Int) - 3) ∧ ((n : Int) - 3) ≤ y)) ∧ (z ≤ ((n : Int) - 3) ∧ ((n : Int) - 3) ≤ y → mkI r ((n : Int) - 3) - v = ((n : Int) - 3) - z)) (h : KP r kc kr) : ((v ≤ kr.toInt ∧ kr.toInt ≤ w) ↔ (z ≤ kc.toInt ∧ kc.toInt ≤ y)) ∧ (z ≤ kc.toInt ∧ kc.toInt ≤ y → kr.toInt - v = kc.toInt - z) := by
  obtain ⟨h1, h2, h3⟩ := h
  have hn := hd (kc.toInt + 3).toNat (by omega)
  rw [show (((kc.toInt + 3).toNat : Nat) : Int) - 3 = kc.toInt by omega, ← h1] at hn
  exact hn
end
end
/-! 5e.rel -/
section
noncomputable section
/-! TWO RUNS SIDE BY SIDE -/
def rel {α β : Type} (x : Option α) (y : Option β) (R : α → β → Prop) : Prop := ∀ u, x = some u → ∀ v, y = some v → R u v
theorem rel_some {α β : Type} {u : α} {v : β} {R : α → β → Prop} (h : R u v) : rel (some u) (some v) R := fun _ e _ e2 => Option.some.inj e ▸ Option.some.inj e2 ▸ h
theorem rel_mono {α β : Type} {x : Option α} {y : Option β} {P R : α → β → Prop} (h : rel x y P) (k : ∀ u v, P u v → R u v) : rel x y R := fun u e v e2 => k u v (h u e v e2)
theorem rel_b1 {α β γ δ : Type} {x : Option α} {y : Option β} {f : α → Option γ} {g : β → Option δ} {P : α → β → Prop} {R : γ → δ → Prop} (h : rel x y P) (k : ∀ u v, P u v → rel (f u) (g v) R) : rel (b1 x f) (b1 y g) R := fun u e v e2 => by
  obtain ⟨a, h1, h2⟩ := m_b1 e
  obtain ⟨b, h3, h4⟩ := m_b1 e2
  exact k a b (h a h1 b h3) u h2 v h4
theorem rel_b2 {α α' β β' γ δ : Type} {x : Option (α × α')} {y : Option (β × β')} {f : α → α' → Option γ} {g : β → β' → Option δ} {P : α × α' → β × β' → Prop} {R : γ → δ → Prop} (h : rel x y P) (k : ∀ u u' v v', P (u, u') (v, v') → rel (f u u') (g v v') R) : rel (b2 x f) (b2 y g) R := fun u e v e2 => by
  obtain ⟨a, a', h1, h2⟩ := m_b2 e
  obtain ⟨b, b', h3, h4⟩ := m_b2 e2
  exact k a a' b b' (h _ h1 _ h3) u h2 v h4
theorem rel_l1 {α β γ : Type} {x : Option α} {f : α → Option γ} {y : Option β} {P : α → Prop} {R : γ → β → Prop} (h : pk x P) (k : ∀ u, P u → rel (f u) y R) : rel (b1 x f) y R := fun u e v e2 => by
  obtain ⟨a, h1, h2⟩ := m_b1 e
  exact k a (h a h1) u h2 v e2
theorem rel_r1 {α β γ : Type} {x : Option α} {f : α → Option γ} {y : Option β} {P : α → Prop} {R : β → γ → Prop} (h : pk x P) (k : ∀ u, P u → rel y (f u) R) : rel y (b1 x f) R := fun u e v e2 => by
  obtain ⟨a, h1, h2⟩ := m_b1 e2
  exact k a (h a h1) u e v h2
theorem rel_l2 {α α' β γ : Type} {x : Option (α × α')} {f : α → α' → Option γ} {y : Option β} {P : α × α' → Prop} {R : γ → β → Prop} (h : pk x P) (k : ∀ u u', P (u, u') → rel (f u u') y R) : rel (b2 x f) y R := fun u e v e2 => by
  obtain ⟨a, a', h1, h2⟩ := m_b2 e
  exact k a a' (h _ h1) u h2 v e2
theorem rel_r2 {α α' β γ : Type} {x : Option (α × α')} {f : α → α' → Option γ} {y : Option β} {P : α × α' → Prop} {R : β → γ → Prop} (h : pk x P) (k : ∀ u u', P (u, u') → rel y (f u u') R) : rel y (b2 x f) R := fun u e v e2 => by
  obtain ⟨a, a', h1, h2⟩ := m_b2 e2
  exact k a a' (h _ h1) u e v h2
theorem rel_lg {c : Prop} [Decidable c] {α β : Type} {x : Option α} {y : Option β} {R : α → β → Prop} (h : rel x y R) : rel (if c then none else x) y R := fun u e v e2 => h u (m_gn e).2 v e2
theorem rel_rg {c : Prop} [Decidable c] {α β : Type} {x : Option α} {y : Option β} {R : α → β → Prop} (h : rel x y R) : rel x (if c then none else y) R := fun u e v e2 => h u e v (m_gn e2).2
theorem rel_lp {c : Prop} [Decidable c] {α β : Type} {x : Option α} {y : Option β} {R : α → β → Prop} (h : rel x y R) : rel (if c then x else none) y R := fun u e v e2 => h u (m_gp e).2 v e2
theorem rel_rp {c : Prop} [Decidable c] {α β : Type} {x : Option α} {y : Option β} {R : α → β → Prop} (h : rel x y R) : rel x (if c then y else none) R := fun u e v e2 => h u e v (m_gp e2).2
theorem rel_ifs {c d : Prop} [Decidable c] [Decidable d] {α β : Type} {x x' : Option α} {y y' : Option β} {R : α → β → Prop} (e : c ↔ d) (h1 : c → rel x y R) (h2 : ¬ c → rel x' y' R) : rel (if c then x else x') (if d then y else y') R := by
  by_cases h : c
  · rw [if_pos h, if_pos (e.mp h)]; exact h1 h
  · rw [if_neg h, if_neg (fun q => h (e.mpr q))]; exact h2 h
theorem rel_li {c : Prop} [Decidable c] {α β : Type} {x x' : Option α} {y : Option β} {R : α → β → Prop} (h1 : c → rel x y R) (h2 : ¬ c → rel x' y R) : rel (if c then x else x') y R := by
  by_cases h : c
  · rw [if_pos h]; exact h1 h
  · rw [if_neg h]; exact h2 h
theorem rel_ri {c : Prop} [Decidable c] {α β : Type} {x x' : Option α} {y : Option β} {R : β → α → Prop} (h1 : c → rel y x R) (h2 : ¬ c → rel y x' R) : rel y (if c then x else x') R := by
  by_cases h : c
  · rw [if_pos h]; exact h1 h
  · rw [if_neg h]; exact h2 h
/-- one turn of a loop, and on -/
def bw {σ ρ : Type} (o : Option (σ ⊕ ρ)) (k : σ → Option ρ) : Option ρ := match o with
  | none => none
  | some (.inl v) => k v
  | some (.inr a) => some a
theorem whl_bw {σ ρ : Type} (body : σ → Option (σ ⊕ ρ)) (v : σ) : whl body v = bw (body v) (whl body) := whl_eq body v
theorem bw_l {σ ρ : Type} {k : σ → Option ρ} {v : σ} : bw (some (.inl v)) k = k v := rfl
theorem bw_r {σ ρ : Type} {k : σ → Option ρ} {a : ρ} : bw (some (.inr a)) k = some a := rfl
theorem bw_n {σ ρ : Type} {k : σ → Option ρ} : bw none k = none := rfl
theorem bw_b1 {α σ ρ : Type} {x : Option α} {f : α → Option (σ ⊕ ρ)} {k : σ → Option ρ} : bw (b1 x f) k = b1 x (fun u => bw (f u) k) := by
  cases x <;> rfl
theorem bw_b2 {α β σ ρ : Type} {x : Option (α × β)} {f : α → β → Option (σ ⊕ ρ)} {k : σ → Option ρ} : bw (b2 x f) k = b2 x (fun u v => bw (f u v) k) := by
  cases x <;> rfl
theorem bw_if {c : Prop} [Decidable c] {σ ρ : Type} {x y : Option (σ ⊕ ρ)} {k : σ → Option ρ} : bw (if c then x else y) k = if c then bw x k else bw y k := by
  by_cases h : c
  · rw [if_pos h, if_pos h]
  · rw [if_neg h, if_neg h]
theorem bw_b1r {σ ρ : Type} {x : Option ρ} {k : σ → Option ρ} : bw (b1 x fun τ => some (.inr τ)) k = x := by
  cases x <;> rfl
theorem b1_id {α : Type} {x : Option α} : b1 x (fun u => some u) = x := by cases x <;> rfl
/-! THE TEXT BEING READ: token i stands before both -/
/-- what is fixed while a text is read: the tape, its length, what is read, the tokens -/
def ST (T : Nat → Int32) (len r m : Nat) (B : Nat → Nat) : Prop := len ≤ 400 ∧ r < 3 ∧ m ≤ 400 ∧ (∀ k, k < len → 0 ≤ (T k).toInt ∧ (T k).toInt ≤ 255)
/-- the class stands before token i -/
def CP (T : Nat → Int32) (len m : Nat) (B : Nat → Nat) (i : Nat) (a : mG) : Prop := TKA T len m B a ∧ i ≤ m ∧ a.1 55 12 = cn i ∧ a.1 55 14 = a.1 66 (i * 3 + 0) ∧ a.1 55 15 = a.1 66 (i * 3 + 1) ∧ a.1 55 16 = a.1 66 (i * 3 + 2)
/-- the reference stands before token i -/
def RP (T : Nat → Int32) (len r m : Nat) (B : Nat → Nat) (i : Nat) (b : mG) : Prop := (∀ k, k < len → b.1 95 k = T k) ∧ b.1 88 15 = cn len ∧ (b.1 88 11 = cn r ∧ b.1 88 22 = ci 0 ∧ b.1 88 24 = ci (-1)) ∧ i ≤ m ∧
  ((i = m ∧ b.1 88 18 = cn len ∧ b.1 88 17 = 0 ∧ b.1 88 16 = cn len) ∨ (i < m ∧ b.1 88 16 = cn (B (i + 1)) ∧ ∃ a, Tok T len (B i) a (B (i + 1)) ∧ a < len ∧ b.1 88 18 = cn a ∧ KR r T len a (B (i + 1)) (b.1 88 17) ∧ (ltv (T a) = 0 → ¬ dgv (T a) = 0 → B (i + 1) - a ≤ 4 → b.1 88 19 = nv T a (B (i + 1) - a))))
theorem KC_ne {T : Nat → Int32} {a b : Nat} {kc : Int32} (hB : 0 ≤ (T a).toInt) (h : KC T a b kc) : kc ≠ ci (-1) := by
  intro e
  subst e
  rcases h with ⟨_, ⟨w, hw, e⟩ | ⟨_, e⟩⟩ | ⟨_, _, ⟨_, e⟩ | ⟨_, e⟩⟩ | ⟨_, _, e⟩
  · have h26 := hw.1
    have e1 : (c16 256 + cn w).toInt = 256 + (w : Int) := r_add (by decide : (c16 256).toInt = 256) (t_cn (by omega)) (by omega) (by omega)
    rw [← e, t_cm1] at e1
    omega
  · exact absurd e (by decide)
  · exact absurd e (by decide)
  · exact absurd e (by decide)
  · rw [← e, t_cm1] at hB
    omega
/-- what both see -/
theorem PR_facts {T : Nat → Int32} {len r m i : Nat} {B : Nat → Nat} {a b : mG} (hS : ST T len r m B) (hC : CP T len m B i a) (hR : RP T len r m B i b) : KP r (a.1 55 14) (b.1 88 17) ∧ a.1 55 16 = b.1 88 18 ∧ (a.1 55 14 = c8 (-2) → a.1 55 15 = b.1 88 19) ∧ (a.1 55 14 = ci (-1) ↔ i = m) := by
  obtain ⟨⟨m4, B0, tt, tk, k1, k2, k3⟩, him, c12, c14, c15, cp16⟩ := hC
  obtain ⟨r1, r2, r3, _, r4⟩ := hR
  rcases r4 with ⟨e, h18, h17, h16⟩ | ⟨hi, h16, p, ht, hp, h18, hk, hn⟩
  · subst e
    rw [c14, cp16, k1, k2, h17, h18]
    exact ⟨KP_end, rfl, fun h => absurd h (by decide), ⟨fun _ => rfl, fun _ => rfl⟩⟩
  · obtain ⟨p', z1, z2, z3, z4, z5⟩ := tk i hi
    have e := (Tok_one ht z1).1
    subst e
    rw [c14, c15, cp16, z5, h18]
    have hB := hS.2.2.2 p hp
    refine ⟨KC_KR hS.2.1 hB hp z3 hk, rfl, fun h => ?_, ⟨fun h => absurd h (KC_ne hB.1 z3), fun h => by omega⟩⟩
    rw [h] at z3
    rcases z3 with ⟨_, ⟨w, hw, e⟩ | ⟨_, e⟩⟩ | ⟨l, d, ⟨q, e⟩ | ⟨_, e⟩⟩ | ⟨_, _, e⟩
    · have h26 := hw.1
      have e1 : (c16 256 + cn w).toInt = 256 + (w : Int) := r_add (by decide : (c16 256).toInt = 256) (t_cn (by omega)) (by omega) (by omega)
      rw [← e] at e1
      have e2 : (c8 (-2)).toInt = -2 := by decide
      omega
    · exact absurd e (by decide)
    · rw [z4 d q, hn l d q]
    · exact absurd e (by decide)
    · rw [← e, show (c8 (-2)).toInt = -2 by decide] at hB
      omega
/-- the class steps on -/
def CFr (a u : mG) : Prop := u.2 = a.2 ∧ (∀ j, j ≠ 55 → u.1 j = a.1 j) ∧ ∀ c, c ≠ 12 → c ≠ 14 → c ≠ 15 → c ≠ 16 → u.1 55 c = a.1 55 c
theorem TKA_row {T : Nat → Int32} {len m : Nat} {B : Nat → Nat} {a u : mG} (h : TKA T len m B a) (e65 : u.1 65 = a.1 65) (e66 : u.1 66 = a.1 66) : TKA T len m B u := by
  unfold TKA TT TKS
  rw [e65, e66]
  exact h
theorem V_stepG {T : Nat → Int32} {len m j : Nat} {B : Nat → Nat} {a : mG} (hK : TKA T len m B a) (h12 : a.1 55 12 + ci 1 = cn j) (hj : j ≤ m) : pk (F_X7_stepOn a) (fun u => CP T len m B j u ∧ CFr a u) := by
  have tt := hK.2.2.1
  have m4 := hK.1
  unfold F_X7_stepOn
  have e12 : imin ((a.1 55 12) + (ci 1)) ((a.1 65 3) - (ci 1)) = cn j := by
    rw [h12, tt.2.2, show cn (m + 1) - ci 1 = cn m from (cn_sub (a := m + 1) (b := 1) (by omega) (by omega)).trans (by rw [Nat.add_sub_cancel])]
    exact if_neg fun q => absurd ((cn_lt (by omega) (by omega)).mp q) (by omega)
  rw [e12]
  have w : ∀ D : Nat → Nat → Int32, (∀ j, j ≠ 55 → D j = a.1 j) → D 55 12 = cn j → ∀ (c : Nat) (x : Int32), x = ci (c : Int) → c < 3 → F_X10_at 65 (D, a.2) (D 55 12) x = some (a.1 66 (j * 3 + c)) := fun D hD h12 c x hx hc => by
    have e : F_X10_at 65 ((D, a.2) : mG) (D 55 12) x = some (((D, a.2) : mG).1 (65 + 1) (j * 3 + c)) := V_at (n := m + 1) (W := 3) h12 (hx.trans rfl) ((congrFun (hD 65 (by decide)) 1).trans tt.2.1) ((congrFun (hD 65 (by decide)) 3).trans tt.2.2) (by omega) hc (by rw [al_66]; omega) (by omega)
    rw [e]
    exact congrArg some (congrFun (hD 66 (by decide)) _)
  extract_lets s1
  have d1 : ∀ j, j ≠ 55 → s1.1 j = a.1 j := fun j hj => mu_rowQ hj
  have g1 : s1.1 55 12 = cn j := mu_sameQ
  have o1 : ∀ c, c ≠ 12 → s1.1 55 c = a.1 55 c := fun c hc => mu_cellQ (Or.inr hc)
  have q1 : s1.2 = a.2 := rfl
  clear_value s1
  obtain ⟨D1, E1⟩ := s1
  have q1 : E1 = a.2 := q1
  subst q1
  rw [w D1 d1 g1 0 (ci 0) rfl (by omega), b1_some]
  extract_lets s4
  have d4 : ∀ j, j ≠ 55 → s4.1 j = a.1 j := fun j hj => (mu_rowQ hj).trans (d1 j hj)
  have g4 : s4.1 55 12 = cn j := (mu_cellQ (by omega)).trans g1
  have o4 : ∀ c, c ≠ 12 → c ≠ 14 → s4.1 55 c = a.1 55 c := fun c h1 h2 => (mu_cellQ (Or.inr h2)).trans (o1 c h1)
  have p4 : s4.1 55 14 = a.1 66 (j * 3 + 0) := mu_sameQ
  have q4 : s4.2 = a.2 := rfl
  clear_value s4
  obtain ⟨D4, E4⟩ := s4
  have q4 : E4 = a.2 := q4
  subst q4
  rw [w D4 d4 g4 1 (ci 1) rfl (by omega), b1_some]
  extract_lets s7
  have d7 : ∀ j, j ≠ 55 → s7.1 j = a.1 j := fun j hj => (mu_rowQ hj).trans (d4 j hj)
  have g7 : s7.1 55 12 = cn j := (mu_cellQ (by omega)).trans g4
  have o7 : ∀ c, c ≠ 12 → c ≠ 14 → c ≠ 15 → s7.1 55 c = a.1 55 c := fun c h1 h2 h3 => (mu_cellQ (Or.inr h3)).trans (o4 c h1 h2)
  have p7 : s7.1 55 14 = a.1 66 (j * 3 + 0) := (mu_cellQ (by omega)).trans p4
  have r7 : s7.1 55 15 = a.1 66 (j * 3 + 1) := mu_sameQ
  have q7 : s7.2 = a.2 := rfl
  clear_value s7
  obtain ⟨D7, E7⟩ := s7
  have q7 : E7 = a.2 := q7
  subst q7
  rw [w D7 d7 g7 2 (ci 2) rfl (by omega), b1_some]
  have d10 : ∀ i, i ≠ 55 → mu D7 55 16 (a.1 66 (j * 3 + 2)) i = a.1 i := fun i hi => (mu_row hi).trans (d7 i hi)
  refine pk_some ⟨⟨TKA_row hK (d10 65 (by decide)) (d10 66 (by decide)), hj, (mu_cellQ (by omega)).trans g7, ?_, ?_, ?_⟩, rfl, d10, fun c h1 h2 h3 h4 => (mu_cellQ (Or.inr h4)).trans (o7 c h1 h2 h3)⟩
  · exact ((mu_cellQ (by omega)).trans p7).trans (congrFun (d10 66 (by decide)) _).symm
  · exact ((mu_cellQ (by omega)).trans r7).trans (congrFun (d10 66 (by decide)) _).symm
  · exact mu_sameQ.trans (congrFun (d10 66 (by decide)) _).symm
theorem V_stepOn {T : Nat → Int32} {len m i : Nat} {B : Nat → Nat} {a : mG} (hC : CP T len m B i a) (hi : i < m) : pk (F_X7_stepOn a) (fun u => CP T len m B (i + 1) u ∧ CFr a u) := by
  have m4 := hC.1.1
  exact V_stepG hC.1 (by rw [hC.2.2.1, cnu (by omega)]) (by omega)
/-- behind a token that ends at B i -/
theorem V_nextG {T : Nat → Int32} {len r m j : Nat} {B : Nat → Nat} {a b : mG} (hS : ST T len r m B) (hK : TKA T len m B a) (r1 : ∀ k, k < len → b.1 95 k = T k) (r2 : b.1 88 15 = cn len) (r3 : b.1 88 11 = cn r ∧ b.1 88 22 = ci 0 ∧ b.1 88 24 = ci (-1)) (h16 : b.1 88 16 = cn (B j)) (hle : B j ≤ len) (hj : j ≤ m) : pk (F_X12_next0 b) (fun u => RP T len r m B j u ∧ NF b u) := by
  obtain ⟨m4, B0, tt, tk, k1, k2, k3⟩ := hK
  refine fun u hu => ?_
  obtain ⟨nf, p', b', q1, q2, q3, q4, q5⟩ := V_next0 r1 r2 hS.1 hS.2.1 r3.1 h16 hle (fun k hk => (hS.2.2.2 k hk).1) u hu
  refine ⟨⟨fun k hk => (congrFun (nf.2.1 95 (by decide)) k).trans (r1 k hk), (nf.2.2 15 (by decide) (by decide) (by decide) (by decide)).trans r2, ⟨(nf.2.2 11 (by decide) (by decide) (by decide) (by decide)).trans r3.1, (nf.2.2 22 (by decide) (by decide) (by decide) (by decide)).trans r3.2.1, (nf.2.2 24 (by decide) (by decide) (by decide) (by decide)).trans r3.2.2⟩, hj, ?_⟩, nf⟩
  by_cases him : j = m
  · have hrun : Run bkv T len (B j) len := by rw [him]; exact k3
    have e : p' = len := Run_one q1.1 hrun
    subst e
    rcases q1.2 with ⟨_, e⟩ | ⟨e, _⟩
    · subst e
      rcases q4 with ⟨_, e⟩ | ⟨e, _⟩
      · exact Or.inl ⟨him, q2, e, q3⟩
      · omega
    · omega
  · obtain ⟨p2, z1, z2, z3, z4, z5⟩ := tk j (by omega)
    obtain ⟨e1, e2⟩ := Tok_one q1 z1
    subst e1; subst e2
    exact Or.inr ⟨by omega, q3, p', q1, z2, q2, q4, fun l d h => q5 z2 l d h⟩
/-- the reference steps on -/
theorem V_next {T : Nat → Int32} {len r m i : Nat} {B : Nat → Nat} {a b : mG} (hS : ST T len r m B) (hK : TKA T len m B a) (hR : RP T len r m B i b) (hi : i < m) : pk (F_X12_next0 b) (fun u => RP T len r m B (i + 1) u ∧ NF b u) := by
  obtain ⟨r1, r2, r3, _, r4⟩ := hR
  rcases r4 with ⟨e, _⟩ | ⟨_, h16, p, ht, hp, h18, hk, hn⟩
  · omega
  · exact V_nextG hS hK r1 r2 r3 h16 (Tok_lt ht hp).2 (by omega)
end
end
/-! 5f.sums -/
section
noncomputable section
/-! SUMS, here and there -/
def OPL : List (Nat × Nat) := [(23, 2), (24, 3), (25, 4), (27, 6), (28, 7), (29, 8), (30, 9), (31, 10), (32, 11)]
/-- a step of the class's code, and the reference's -/
def EN (x k v : Int32) : Prop := (k = cn 0 ∧ x = v ∧ 0 ≤ v.toInt ∧ v.toInt ≤ 9999) ∨ (∃ j, j < 9 ∧ k = cn (j + 1) ∧ x = cn (10000 + j)) ∨ (k = cn 26 ∧ x = ci 50000 + v ∧ 1 ≤ v.toInt ∧ v.toInt ≤ 9999) ∨ (∃ q, q ∈ OPL ∧ k = cn q.1 ∧ x = cn (q.2 * 10000))
def C58 (a : mG) : Prop := a.1 58 0 = cn 400 ∧ a.1 58 1 = cn 1
def CodeR (nc : Nat) (pend : List Nat) (a b : mG) : Prop := C58 a ∧ a.1 58 3 = cn nc ∧ b.1 88 13 = cn (nc + pend.length) ∧ (∀ j, j < nc → EN (a.1 59 j) (b.1 93 (2 * j)) (b.1 93 (2 * j + 1))) ∧ ∀ j, j < pend.length → b.1 93 (2 * (nc + j)) = cn (pend.getD j 0)
/-- what reading a sum leaves -/
def CG (a u : mG) : Prop := u.2 = a.2 ∧ (∀ j, j ≠ 55 → j ≠ 58 → j ≠ 59 → u.1 j = a.1 j) ∧ (∀ c, c ≠ 10 → c ≠ 11 → c ≠ 12 → c ≠ 14 → c ≠ 15 → c ≠ 16 → u.1 55 c = a.1 55 c) ∧ ∀ c, c ≠ 3 → u.1 58 c = a.1 58 c
def RG (b u : mG) : Prop := u.2 = b.2 ∧ (∀ j, j ≠ 88 → j ≠ 93 → u.1 j = b.1 j) ∧ ∀ c, c ≠ 13 → c ≠ 16 → c ≠ 17 → c ≠ 18 → c ≠ 19 → c ≠ 20 → c ≠ 21 → u.1 88 c = b.1 88 c
theorem CG_rfl {a : mG} : CG a a := ⟨rfl, fun _ _ _ _ => rfl, fun _ _ _ _ _ _ _ => rfl, fun _ _ => rfl⟩
theorem CG_tr {a u v : mG} (h : CG a u) (k : CG u v) : CG a v := ⟨k.1.trans h.1, fun j h1 h2 h3 => (k.2.1 j h1 h2 h3).trans (h.2.1 j h1 h2 h3), fun c h1 h2 h3 h4 h5 h6 => (k.2.2.1 c h1 h2 h3 h4 h5 h6).trans (h.2.2.1 c h1 h2 h3 h4 h5 h6), fun c hc => (k.2.2.2 c hc).trans (h.2.2.2 c hc)⟩
theorem RG_rfl {a : mG} : RG a a := ⟨rfl, fun _ _ _ => rfl, fun _ _ _ _ _ _ _ _ => rfl⟩
theorem RG_tr {a u v : mG} (h : RG a u) (k : RG u v) : RG a v := ⟨k.1.trans h.1, fun j h1 h2 => (k.2.1 j h1 h2).trans (h.2.1 j h1 h2), fun c h1 h2 h3 h4 h5 h6 h7 => (k.2.2 c h1 h2 h3 h4 h5 h6 h7).trans (h.2.2 c h1 h2 h3 h4 h5 h6 h7)⟩
theorem CG_step {a u : mG} (h : CFr a u) : CG a u := ⟨h.1, fun j h1 _ _ => h.2.1 j h1, fun c _ _ h3 h4 h5 h6 => h.2.2 c h3 h4 h5 h6, fun c _ => congrFun (h.2.1 58 (by decide)) c⟩
theorem RG_next {b u : mG} (h : NF b u) : RG b u := ⟨h.1, fun j h1 _ => h.2.1 j h1, fun c _ h2 h3 h4 h5 _ _ => h.2.2 c h2 h3 h4 h5⟩
theorem V_refuse {w : Int32} {a : mG} : F_X7_refuse w a = some (ci 0, (mu (mu a.1 55 10 w) 55 11 (a.1 55 16), a.2)) := by
  unfold F_X7_refuse
  dsimp only
  rw [mu_cell (by omega)]
theorem V_bad {w : Int32} {b : mG} : F_X12_bad w b = some (ci 0, (mu (mu b.1 88 20 w) 88 21 (b.1 88 18), b.2)) := by
  unfold F_X12_bad
  dsimp only
  rw [mu_cell (by omega)]
theorem CG_refuse {w x : Int32} {a : mG} : CG a (mu (mu a.1 55 10 w) 55 11 x, a.2) := ⟨rfl, fun j h1 _ _ => (mu_rowQ h1).trans (mu_row h1), fun c h1 h2 _ _ _ _ => (mu_cellQ (Or.inr h2)).trans (mu_cell (Or.inr h1)), fun c _ => congrFun ((mu_rowQ (by omega)).trans (mu_row (by omega))) c⟩
theorem RG_bad {w x : Int32} {b : mG} : RG b (mu (mu b.1 88 20 w) 88 21 x, b.2) := ⟨rfl, fun j h1 _ => (mu_rowQ h1).trans (mu_row h1), fun c _ _ _ _ _ h6 h7 => (mu_cellQ (Or.inr h7)).trans (mu_cell (Or.inr h6))⟩
theorem al_59 : m_alen (58 + 1) = 400 := by decide +kernel
theorem V_push {a : mG} {nc : Nat} {x : Int32} (h : C58 a) (h3 : a.1 58 3 = cn nc) (hn : nc < 400) : F_X10_push 58 x a = some (mu (mu a.1 58 3 (cn (nc + 1))) 59 nc x, a.2) := by
  unfold F_X10_push
  rw [h.1, h3, if_neg (fun q => absurd ((cn_le (by omega) (by omega)).mp q) (by omega)), cnu (by omega)]
  dsimp only
  have e3 : mu a.1 58 3 (cn (nc + 1)) 58 3 - ci 1 = cn nc := by
    rw [mu_same]; exact (cn_sub (a := nc + 1) (b := 1) (by omega) (by omega)).trans (by rw [Nat.add_sub_cancel])
  rw [e3, V_put (a2 := ci 0) (r := nc) (c := 0) (n := nc + 1) (W := 1) rfl rfl ((mu_cellQ (by omega)).trans h.2) mu_sameQ (by omega) (by omega) (by rw [al_59]; omega) (by omega), b1_some, Nat.mul_one]
  rfl
theorem V_lay {b : mG} {n : Nat} {k v : Int32} (h : b.1 88 13 = cn n) (hn : n ≤ 400) : pk (F_X12_lay k v b) (fun u => u = (mu (mu (mu b.1 93 (2 * n) k) 93 (2 * n + 1) v) 88 13 (cn (n + 1)), b.2)) := by
  unfold F_X12_lay
  refine pk_nn ?_
  have e2 : (ci 2) * cn n = cn (2 * n) := cn_mul (a := 2) (by omega) (by omega) (by omega)
  rw [h, e2, cn_nat (by omega)]
  dsimp only
  refine pk_nn ?_
  have e13 : mu b.1 93 (2 * n) k 88 13 = cn n := (mu_cell (by omega)).trans h
  rw [e13, e2, cnu (by omega), cn_nat (by omega)]
  have e13b : mu (mu b.1 93 (2 * n) k) 93 (2 * n + 1) v 88 13 = cn n := (mu_cell (by omega)).trans e13
  rw [e13b, cnu (by omega)]
  exact pk_some rfl
/-- a step is laid by both -/
theorem CodeR_add {nc : Nat} {a b u w : mG} {x k v : Int32} (h : CodeR nc [] a b) (he : EN x k v) (hu : u.1 = mu (mu a.1 58 3 (cn (nc + 1))) 59 nc x) (hw : w.1 = mu (mu (mu b.1 93 (2 * nc) k) 93 (2 * nc + 1) v) 88 13 (cn (nc + 1))) : CodeR (nc + 1) [] u w := by
  obtain ⟨⟨h0, h1⟩, h3, h13, hE, _⟩ := h
  refine ⟨⟨?_, ?_⟩, ?_, ?_, fun j hj => ?_, fun j hj => absurd hj (by simp)⟩
  · rw [hu, mu_row (by omega), mu_cell (by omega)]; exact h0
  · rw [hu, mu_row (by omega), mu_cell (by omega)]; exact h1
  · rw [hu, mu_row (by omega), mu_same]
  · rw [hw, mu_same]; rfl
  · rw [hu, hw, mu_row (by omega : (93 : Nat) ≠ 88)]
    by_cases hjn : j = nc
    · subst hjn
      rw [mu_same, mu_cell (by omega), mu_same, mu_same]; exact he
    · rw [mu_cell (by omega), mu_row (by omega), mu_cell (by omega), mu_cell (by omega), mu_cell (by omega), mu_cell (by omega)]
      exact hE j (by omega)
section SUMS
variable {T : Nat → Int32} {len r m : Nat} {B : Nat → Nat}
/-- both stand before token i, with nc steps of code, and k tokens more that will still give a step -/
def SX (T : Nat → Int32) (len r m : Nat) (B : Nat → Nat) (i nc k : Nat) (pend : List Nat) (a b : mG) : Prop := CP T len m B i a ∧ RP T len r m B i b ∧ CodeR nc pend a b ∧ nc + k ≤ i
/-- both refuse alike -/
def FE (a b : mG) : Prop := a.1 55 10 = b.1 88 20 ∧ a.1 55 11 = b.1 88 21
/-- what reading a piece comes to -/
def PRO (T : Nat → Int32) (len r m : Nat) (B : Nat → Nat) (i k : Nat) (a b : mG) (τ υ : Int32 × mG) : Prop := τ.1 = υ.1 ∧ CG a τ.2 ∧ RG b υ.2 ∧ (τ.1 = 0 → FE τ.2 υ.2) ∧ (¬ τ.1 = 0 → ∃ i' nc', i < i' ∧ SX T len r m B i' nc' k [] τ.2 υ.2)
theorem CP_code {i nc : Nat} {x y : Int32} {a : mG} (h : CP T len m B i a) : CP T len m B i (mu (mu a.1 58 3 y) 59 nc x, a.2) := by
  have e : ∀ j, j ≠ 58 → j ≠ 59 → mu (mu a.1 58 3 y) 59 nc x j = a.1 j := fun j h1 h2 => (mu_row h2).trans (mu_row h1)
  obtain ⟨h1, h2, h3, h4, h5, h6⟩ := h
  have e55 : (mu (mu a.1 58 3 y) 59 nc x, a.2).1 55 = a.1 55 := e 55 (by omega) (by omega)
  have e66 : (mu (mu a.1 58 3 y) 59 nc x, a.2).1 66 = a.1 66 := e 66 (by omega) (by omega)
  refine ⟨TKA_row h1 (e 65 (by omega) (by omega)) e66, h2, ?_, ?_, ?_, ?_⟩
  · rw [e55]; exact h3
  · rw [e55, e66]; exact h4
  · rw [e55, e66]; exact h5
  · rw [e55, e66]; exact h6
theorem CG_code {nc : Nat} {x y : Int32} {a : mG} : CG a (mu (mu a.1 58 3 y) 59 nc x, a.2) := ⟨rfl, fun j _ h2 h3 => (mu_rowQ h3).trans (mu_row h2), fun c _ _ _ _ _ _ => congrFun ((mu_rowQ (by omega)).trans (mu_row (by omega))) c, fun c hc => (congrFun (mu_rowQ (by omega)) c).trans (mu_cell (Or.inr hc))⟩
theorem RP_same {i : Nat} {b u : mG} (h : RP T len r m B i b) (e95 : u.1 95 = b.1 95) (e : ∀ c, c = 11 ∨ c = 15 ∨ c = 16 ∨ c = 17 ∨ c = 18 ∨ c = 19 ∨ c = 22 ∨ c = 24 → u.1 88 c = b.1 88 c) : RP T len r m B i u := by
  unfold RP
  rw [e95, e 11 (by omega), e 15 (by omega), e 16 (by omega), e 17 (by omega), e 18 (by omega), e 19 (by omega), e 22 (by omega), e 24 (by omega)]
  exact h
theorem RP_lay {i n : Nat} {x y z : Int32} {b : mG} (h : RP T len r m B i b) : RP T len r m B i (mu (mu (mu b.1 93 (2 * n) x) 93 (2 * n + 1) y) 88 13 z, b.2) :=
  RP_same h ((mu_rowQ (by omega)).trans ((mu_row (by omega)).trans (mu_row (by omega)))) (fun c hc => (mu_cellQ (by omega)).trans ((mu_cell (by omega)).trans (mu_cell (by omega))))
theorem RG_lay {n : Nat} {x y z : Int32} {b : mG} : RG b (mu (mu (mu b.1 93 (2 * n) x) 93 (2 * n + 1) y) 88 13 z, b.2) := ⟨rfl, fun j h1 h2 => (mu_rowQ h1).trans ((mu_row h2).trans (mu_row h2)), fun c h1 _ _ _ _ _ _ => (mu_cellQ (Or.inr h1)).trans ((mu_cell (by omega)).trans (mu_cell (by omega)))⟩
theorem CodeR_step {nc : Nat} {p : List Nat} {a b u w : mG} (h : CodeR nc p a b) (h1 : CFr a u) (h2 : NF b w) : CodeR nc p u w := by
  unfold CodeR C58
  rw [h1.2.1 58 (by decide), h1.2.1 59 (by decide), h2.2.1 93 (by decide), h2.2.2 13 (by decide) (by decide) (by decide) (by decide)]
  exact h
theorem nv_b {a : Nat} : ∀ k, k ≤ 4 → (∀ j, j < k → ¬ dgv (T (a + j)) = 0) → 0 ≤ (nv T a k).toInt ∧ (nv T a k).toInt < 10 ^ k := by
  intro k
  induction k with
  | zero => intro _ _; exact ⟨by show 0 ≤ (ci 0).toInt; decide, by show (ci 0).toInt < _; decide⟩
  | succ k ih =>
    intro hk hd
    have h := ih (by omega) (fun j hj => hd j (by omega))
    have d := dgv_f (hd k (by omega))
    have hp : (10 : Int) ^ k ≤ 1000 := by
      have : k = 0 ∨ k = 1 ∨ k = 2 ∨ k = 3 := by omega
      rcases this with e | e | e | e <;> subst e <;> decide
    have e1 : (nv T a k * c8 10).toInt = (nv T a k).toInt * 10 := r_mul rfl (by decide : (c8 10).toInt = 10) (by omega) (by omega)
    have e2 : (nv T a k * c8 10 + T (a + k)).toInt = (nv T a k).toInt * 10 + (T (a + k)).toInt := r_add e1 rfl (by omega) (by omega)
    have e3 : (nv T a (k + 1)).toInt = (nv T a k).toInt * 10 + (T (a + k)).toInt - 48 := r_sub e2 (by decide : (c8 48).toInt = 48) (by omega) (by omega)
    rw [e3, Int.pow_succ]
    omega
/-- a number's value is below 10000 -/
theorem RP_num {i : Nat} {b : mG} (hS : ST T len r m B) (h : RP T len r m B i b) (hk : b.1 88 17 = ci 2) : 0 ≤ (b.1 88 19).toInt ∧ (b.1 88 19).toInt ≤ 9999 := by
  obtain ⟨_, _, _, _, h⟩ := h
  rcases h with ⟨_, _, e, _⟩ | ⟨hi, _, a, ht, ha, _, hkr, hn⟩
  · rw [hk] at e; exact absurd e (by decide)
  · rcases hkr with ⟨e, _⟩ | ⟨_, hkr⟩
    · omega
    · rcases hkr with ⟨_, hkr⟩ | ⟨l, d, ⟨q, _⟩ | ⟨_, e⟩⟩ | ⟨_, _, e⟩
      · rcases hkr with ⟨w, hw, e⟩ | ⟨_, e⟩
        · rw [hk] at e
          have h26 := hw.1
          have hr := hS.2.1
          have f : ∀ r, r < 3 → ∀ w, w < 26 → ci 2 ≠ cn (mw r w) := by decide +kernel
          exact absurd e (f r hr w h26)
        · rw [hk] at e; exact absurd e (by decide)
      · rw [hn l d q]
        rcases ht.2 with ⟨e, _⟩ | ⟨_, ⟨e, _⟩ | ⟨_, _, hrun⟩ | ⟨_, e, _⟩⟩
        · omega
        · exact absurd l e
        · have h := nv_b (T := T) (a := a) (B (i + 1) - a) q (fun j hj => hrun.2.2.1 _ (by omega) (by omega))
          have hp : (10 : Int) ^ (B (i + 1) - a) ≤ 10000 := by
            have : B (i + 1) - a = 0 ∨ B (i + 1) - a = 1 ∨ B (i + 1) - a = 2 ∨ B (i + 1) - a = 3 ∨ B (i + 1) - a = 4 := by omega
            rcases this with e | e | e | e | e <;> rw [e] <;> decide
          omega
        · exact absurd e d
      · rw [hk] at e; exact absurd e (by decide)
      · rw [hk] at e
        have hB := hS.2.2.2 a ha
        have h2 := sg_t hB.1 hB.2
        rw [← e] at h2
        have f : ∀ n : Nat, n < 256 → (2 : Int) ≠ mkI 0 (n : Int) := by decide +kernel
        have f2 := f (T a).toInt.toNat (by omega)
        rw [show (((T a).toInt.toNat : Nat) : Int) = (T a).toInt by omega] at f2
        exact absurd h2 f2
/-- both step on -/
theorem S_step {i nc k' : Nat} {p : List Nat} {a b : mG} (hS : ST T len r m B) (h1 : CP T len m B i a) (h2 : RP T len r m B i b) (h3 : CodeR nc p a b) (hi : i < m) (hk : nc + k' ≤ i + 1) : rel (F_X7_stepOn a) (F_X12_next0 b) (fun u w => SX T len r m B (i + 1) nc k' p u w ∧ CFr a u ∧ NF b w) := by
  intro u hu w hw
  obtain ⟨g1, g2⟩ := V_stepOn h1 hi u hu
  obtain ⟨g3, g4⟩ := V_next hS h1.1 h2 hi w hw
  exact ⟨⟨g1, g3, CodeR_step h3 g2 g4, hk⟩, g2, g4⟩
theorem S_lt {i : Nat} {a b : mG} (hS : ST T len r m B) (h1 : CP T len m B i a) (h2 : RP T len r m B i b) (hk : ¬ a.1 55 14 = ci (-1)) : i < m := by
  have g1 := (PR_facts hS h1 h2).2.2.2
  have g2 := h1.2.1
  have g3 : i ≠ m := fun e => hk (g1.mpr e)
  omega
/-- both refuse -/
theorem S_fail {i : Nat} {a b a0 b0 : mG} {w : Int32} (hS : ST T len r m B) (h1 : CP T len m B i a) (h2 : RP T len r m B i b) (c : CG a0 a) (d : RG b0 b) (i0 k0 : Nat) : rel (F_X7_refuse w a) (F_X12_bad w b) (PRO T len r m B i0 k0 a0 b0) := by
  rw [V_refuse, V_bad]
  have g := (PR_facts hS h1 h2).2.1
  refine rel_some ⟨rfl, CG_tr c CG_refuse, RG_tr d RG_bad, fun _ => ⟨?_, ?_⟩, fun q => absurd (by decide : ci 0 = 0) q⟩
  · exact ((mu_cellQ (by omega)).trans mu_same).trans ((mu_cellQ (by omega)).trans mu_same).symm
  · exact mu_sameQ.trans (g.trans mu_sameQ.symm)
theorem rel_fl {x : Option (Int32 × mG)} {y : Option (Int32 × mG)} {R : Int32 × mG → Int32 × mG → Prop} (h : rel x y R) : rel (b2 x fun v s => if v = 0 ∨ v = 1 then some (v, s) else none) (b2 y fun v s => if v = 0 ∨ v = 1 then some (v, s) else none) R := rel_b2 h fun _ _ _ _ q => rel_lp (rel_rp (rel_some q))
/-- both lay a step -/
theorem S_emit {i j nc : Nat} {a b : mG} {x s v : Int32} (h1 : CP T len m B i a) (h2 : RP T len r m B j b) (h3 : CodeR nc [] a b) (he : EN x s v) (hn : nc < 400) : rel (F_X10_push 58 x a) (F_X12_lay s v b) (fun u w => CP T len m B i u ∧ RP T len r m B j w ∧ CodeR (nc + 1) [] u w ∧ CG a u ∧ RG b w) := by
  rw [V_push h3.1 h3.2.1 hn]
  have h13 : b.1 88 13 = cn nc := h3.2.2.1
  intro u hu w hw
  have hw := V_lay h13 (by omega) w hw
  have hu := Option.some.inj hu
  subst hu; subst hw
  exact ⟨CP_code h1, RP_lay h2, CodeR_add h3 he rfl rfl, CG_code, RG_lay⟩
theorem CFr_rfl {a : mG} : CFr a a := ⟨rfl, fun _ _ => rfl, fun _ _ _ _ _ => rfl⟩
theorem NF_rfl {b : mG} : NF b b := ⟨rfl, fun _ _ => rfl, fun _ _ _ _ _ => rfl⟩
end SUMS
end
end
/-! 5g.sum -/
section
noncomputable section
/-! A SUM OF THE LAW, read by both -/
theorem b2_b2 {α β γ δ ε : Type} {x : Option (α × β)} {f : α → β → Option (γ × δ)} {g : γ → δ → Option ε} : b2 (b2 x f) g = b2 x (fun u v => b2 (f u v) g) := by cases x <;> rfl
theorem b2_if {α β γ : Type} {c : Prop} [Decidable c] {x y : Option (α × β)} {g : α → β → Option γ} : b2 (if c then x else y) g = if c then b2 x g else b2 y g := by
  by_cases h : c
  · rw [if_pos h, if_pos h]
  · rw [if_neg h, if_neg h]
theorem b1_b1 {α β γ : Type} {x : Option α} {f : α → Option β} {g : β → Option γ} : b1 (b1 x f) g = b1 x (fun u => b1 (f u) g) := by cases x <;> rfl
section SUM
variable {T : Nat → Int32} {len m : Nat} {B : Nat → Nat}
theorem EN_op {q : Nat × Nat} {y x : Int32} (hq : q ∈ OPL) (hy : y = cn q.1) (hx : x = cn (q.2 * 10000)) {v : Int32} : EN x y v := Or.inr (Or.inr (Or.inr ⟨q, hq, hy, hx⟩))
/-- what the kinds say of each other, the law being read -/
theorem K_num {kc kr : Int32} (h : KP 0 kc kr) : kr = ci 2 ↔ kc = c8 (-2) := KP_iff (v := 2) (z := -2) (by decide) (by decide) (by decide +kernel) h
theorem K_plus {kc kr : Int32} (h : KP 0 kc kr) : kr = c16 143 ↔ kc = c8 43 := KP_iff (v := 143) (z := 43) (by decide) (by decide) (by decide +kernel) h
theorem K_less {kc kr : Int32} (h : KP 0 kc kr) : kr = c16 145 ↔ kc = c8 45 := KP_iff (v := 145) (z := 45) (by decide) (by decide) (by decide +kernel) h
theorem K_times {kc kr : Int32} (h : KP 0 kc kr) : kr = c16 142 ↔ kc = c8 42 := KP_iff (v := 142) (z := 42) (by decide) (by decide) (by decide +kernel) h
theorem K_part {kc kr : Int32} (h : KP 0 kc kr) : kr = c16 147 ↔ kc = c8 47 := KP_iff (v := 147) (z := 47) (by decide) (by decide) (by decide +kernel) h
theorem K_name {kc kr : Int32} (h : KP 0 kc kr) : ((41 ≤ kr.toInt ∧ kr.toInt ≤ 49) ↔ (262 ≤ kc.toInt ∧ kc.toInt ≤ 270)) ∧ (262 ≤ kc.toInt ∧ kc.toInt ≤ 270 → kr.toInt - 41 = kc.toInt - 262) := KP_rng (by decide +kernel) h
theorem wi_in {x a b : Int32} (h1 : a.toInt ≤ x.toInt) (h2 : x.toInt ≤ b.toInt) : wi x a b = ci 1 := by
  unfold wi
  rw [if_neg (fun q => by rw [Int32.lt_iff_toInt_lt] at q; omega), if_neg (fun q => by rw [Int32.lt_iff_toInt_lt] at q; omega)]
theorem wi_out {x a b : Int32} (h : ¬ (a.toInt ≤ x.toInt ∧ x.toInt ≤ b.toInt)) : wi x a b = ci 0 := by
  unfold wi
  by_cases h1 : x < a
  · rw [if_pos h1]
  · rw [if_neg h1]
    rw [Int32.lt_iff_toInt_lt] at h1
    rw [if_pos (by rw [Int32.lt_iff_toInt_lt]; omega)]
theorem S_unit {i nc k : Nat} {a b : mG} (hS : ST T len 0 m B) (h : SX T len 0 m B i nc k [] a b) : rel (F_X7_readUnit a) (F_X12_unit b) (PRO T len 0 m B i k a b) := by
  obtain ⟨h1, h2, h3, h4⟩ := h
  obtain ⟨hK, _, hval, hend⟩ := PR_facts hS h1 h2
  have m4 := hS.2.2.1
  -- a step is laid, and both step on
  have go : ∀ x s v, EN x s v → i < m → rel (b1 (F_X10_push 58 x a) fun s4 => F_X7_readUnit_68 s4) (b1 (F_X12_lay s v b) fun s6 => b1 (F_X12_next0 s6) fun s8 => some ((ci 1), s8)) (PRO T len 0 m B i k a b) := by
    intro x s v he hi
    refine rel_b1 (S_emit h1 h2 h3 he (by omega)) (fun u w q => ?_)
    obtain ⟨q1, q2, q3, q4, q5⟩ := q
    unfold F_X7_readUnit_68
    refine rel_b1 (S_step (k' := k) hS q1 q2 q3 hi (by omega)) (fun u' w' q => ?_)
    obtain ⟨z1, z2, z3⟩ := q
    exact rel_some ⟨rfl, CG_tr q4 (CG_step z2), RG_tr q5 (RG_next z3), fun e => absurd e c1n0, fun _ => ⟨i + 1, nc + 1, by omega, z1⟩⟩
  unfold F_X7_readUnit F_X12_unit
  rw [F_isIn, b1_some]
  dsimp only
  by_cases hN : a.1 55 14 = c8 (-2)
  · have hr : b.1 88 17 = ci 2 := (K_num hK).mpr hN
    have hi : i < m := S_lt hS h1 h2 (by rw [hN]; decide)
    rw [if_pos hN, if_pos hr]
    unfold F_X12_unit_30 F_X12_unit_46
    rw [if_pos (show wi (b.1 88 17) (c8 41) (c8 49) = 0 by rw [hr]; decide)]
    have hb := RP_num hS h2 hr
    exact go _ _ _ (Or.inl ⟨rfl, by rw [hval hN]; exact Int32.zero_add _, hb⟩) hi
  · rw [if_neg hN, if_neg (fun q => hN ((K_num hK).mp q))]
    have hn := K_name hK
    have e1 : ((a.1 55 14 - c16 256) - c8 6).toInt = (a.1 55 14).toInt - 256 - 6 := by
      have b1 := hK.2.1
      have b2 := hK.2.2
      have e0 : (a.1 55 14 - c16 256).toInt = (a.1 55 14).toInt - 256 := r_sub rfl (by decide : (c16 256).toInt = 256) (by omega) (by omega)
      exact r_sub e0 (by decide : (c8 6).toInt = 6) (by omega) (by omega)
    by_cases hm : 262 ≤ (a.1 55 14).toInt ∧ (a.1 55 14).toInt ≤ 270
    · have hi : i < m := S_lt hS h1 h2 (fun e => by rw [e, t_cm1] at hm; omega)
      have hr := hn.1.mpr hm
      have hd := hn.2 hm
      have hw : wi (b.1 88 17) (c8 41) (c8 49) = ci 1 := wi_in (by rw [show (c8 41).toInt = 41 by decide]; exact hr.1) (by rw [show (c8 49).toInt = 49 by decide]; exact hr.2)
      rw [hw, if_neg c1n0, if_neg (t_of_nn (by omega)), if_neg (fun q => by
        have q := r_le (by decide : (c8 9).toInt = 9) e1 q
        omega)]
      unfold F_X12_unit_30 F_X12_unit_46
      rw [if_neg c1n0]
      refine go _ _ _ (Or.inr (Or.inl ⟨((a.1 55 14).toInt - 262).toNat, by omega, ?_, ?_⟩)) hi
      · refine Int32.toInt_inj.mp ?_
        rw [r_sub rfl (by decide : (c8 40).toInt = 40) (by omega) (by omega), t_cn (by omega)]
        omega
      · refine Int32.toInt_inj.mp ?_
        rw [r_add (by decide : (c16 10000).toInt = 10000) e1 (by omega) (by omega), t_cn (by omega)]
        omega
    · have hw : wi (b.1 88 17) (c8 41) (c8 49) = ci 0 := wi_out (by rw [show (c8 41).toInt = 41 by decide, show (c8 49).toInt = 49 by decide]; exact fun q => hm (hn.1.mp q))
      rw [hw, if_pos c0e0]
      unfold F_X7_readUnit_62
      have ff := rel_fl (S_fail (w := ci 1) hS h1 h2 CG_rfl RG_rfl i k)
      by_cases hl : ((a.1 55 14 - c16 256) - c8 6) < 0
      · rw [if_pos hl]; exact ff
      · rw [if_neg hl, if_pos]
        · exact ff
        · have q := t_nn hl
          rw [Int32.le_iff_toInt_le, e1, show (c8 9).toInt = 9 by decide]
          omega
/-- behind a unit, a product and a sum go on -/
def rcont (p : Int32) (b : mG) : Option (Int32 × mG) := b2 (F_X12_product_L9 b) fun v s => if v = 0 then some ((ci 0), s) else if p = ci (-1) then F_X12_sumUp_L9 s else b1 (F_X12_lay (if p = ci 2 then c8 23 else c8 24) (ci 0) s) fun s14 => F_X12_sumUp_L9 s14
theorem sumUp_rc {b : mG} : F_X12_sumUp b = b2 (F_X12_unit b) fun v s => if v = 0 then some ((ci 0), s) else rcont (ci (-1)) s := by
  unfold F_X12_sumUp F_X12_product rcont
  rw [b2_b2]
  congr 1
  funext v s
  rw [b2_if, b2_some]
  by_cases h : v = 0
  · rw [if_pos h, if_pos h, if_pos c0e0]
  · rw [if_neg h, if_neg h]
    simp only [if_true]
theorem sumUp_46 {y p : Int32} {b : mG} (hp : ¬ p = ci (-1)) (hy : y = if p = ci 2 then c8 23 else c8 24) : bw (F_X12_sumUp_46 y b) F_X12_sumUp_L9 = b1 (F_X12_next0 b) fun s8 => b2 (F_X12_unit s8) fun v s => if v = 0 then some ((ci 0), s) else rcont p s := by
  unfold F_X12_sumUp_46 F_X12_product rcont
  rw [bw_b1]
  congr 1
  funext s8
  rw [bw_b2, b2_b2]
  congr 1
  funext v s
  rw [b2_if, b2_some]
  by_cases h : v = 0
  · rw [if_pos h, if_pos h, if_pos c0e0, bw_r]
  · rw [if_neg h, if_neg h]
    congr 1
    funext v2 s2
    rw [bw_if, bw_r, bw_b1]
    by_cases h2 : v2 = 0
    · rw [if_pos h2, if_pos h2]
    · rw [if_neg h2, if_neg h2, if_neg hp, hy]
      congr 1
def pn (p : Int32) : Nat := if p = ci (-1) then 0 else 1
theorem RS_bw {p x : Int32} {a : mG} : F_X7_readSum_L13 p x a = bw (F_X7_readSum_B13 p x a) (fun v => F_X7_readSum_L13 v.1 v.2.1 v.2.2) := whl_bw _ _
theorem PL_bw {b : mG} : F_X12_product_L9 b = bw (F_X12_product_B9 b) F_X12_product_L9 := whl_bw _ _
theorem SL_bw {b : mG} : F_X12_sumUp_L9 b = bw (F_X12_sumUp_B9 b) F_X12_sumUp_L9 := whl_bw _ _
theorem b2_b1 {α β γ δ : Type} {x : Option α} {f : α → Option (β × γ)} {g : β → γ → Option δ} : b2 (b1 x f) g = b1 x (fun u => b2 (f u) g) := by cases x <;> rfl
theorem CP_kind {i : Nat} {a u : mG} (h : CP T len m B i a) (k : CP T len m B i u) (e : u.1 66 = a.1 66) : u.1 55 14 = a.1 55 14 := by
  rw [k.2.2.2.1, h.2.2.2.1, e]
theorem CG_66 {a u : mG} (h : CG a u) : u.1 66 = a.1 66 := h.2.1 66 (by decide) (by decide) (by decide)
theorem EN_p {p v : Int32} (h : p = ci 2 ∨ p = ci 3) : EN (p * c16 10000) (if p = ci 2 then c8 23 else c8 24) v := by
  rcases h with e | e
  · subst e; exact EN_op (q := (23, 2)) (by decide) (by decide) (by decide)
  · subst e; exact EN_op (q := (24, 3)) (by decide) (by decide) (by decide)
/-- the pending sum is laid, where the class steps first -/
theorem S_pend {i j l nc k : Nat} {p : Int32} {a b : mG} {R : mG → mG → Prop} (hp : p = ci (-1) ∨ p = ci 2 ∨ p = ci 3) (h1 : CP T len m B i a) (h2 : RP T len 0 m B j b) (h3 : CodeR nc [] a b) (h4 : nc + (k + pn p) ≤ l) (h5 : l ≤ 400) (hR : ∀ u w nc', CP T len m B i u → RP T len 0 m B j w → CodeR nc' [] u w → nc' + k ≤ l → CG a u → RG b w → R u w) : rel (F_X7_emitIfAny p a) (if p = ci (-1) then some b else F_X12_lay (if p = ci 2 then c8 23 else c8 24) (ci 0) b) R := by
  unfold F_X7_emitIfAny
  unfold pn at h4
  by_cases hm : p = ci (-1)
  · rw [if_pos hm, if_pos hm]
    rw [if_pos hm] at h4
    exact rel_some (hR a b nc h1 h2 h3 (by omega) CG_rfl RG_rfl)
  · rw [if_neg hm, if_neg hm, b1_id]
    rw [if_neg hm] at h4
    refine rel_mono (S_emit h1 h2 h3 (EN_p (hp.resolve_left hm)) (by omega)) (fun u w q => ?_)
    exact hR u w (nc + 1) q.1 q.2.1 q.2.2.1 (by omega) q.2.2.2.1 q.2.2.2.2
theorem rcont_eq {p : Int32} {b : mG} : rcont p b = b2 (F_X12_product_L9 b) fun v s => if v = 0 then some ((ci 0), s) else b1 (if p = ci (-1) then some s else F_X12_lay (if p = ci 2 then c8 23 else c8 24) (ci 0) s) fun s14 => F_X12_sumUp_L9 s14 := by
  unfold rcont
  congr 1
  funext v s
  by_cases h : p = ci (-1)
  · simp only [if_pos h, b1_some]
  · simp only [if_neg h]
/-- no sign of reckoning: the sum is whole -/
theorem S_sum_end {k i nc t : Nat} {p : Int32} {a b a0 b0 : mG} {i0 : Nat} (hS : ST T len 0 m B) (hi0 : i0 < i) (ht : t < i) (hp : p = ci (-1) ∨ p = ci 2 ∨ p = ci 3) (h : SX T len 0 m B i nc (k + pn p) [] a b) (hC : CG a0 a) (hR : RG b0 b) (n43 : ¬ a.1 55 14 = c8 43) (n45 : ¬ a.1 55 14 = c8 45) (n42 : ¬ a.1 55 14 = c8 42) (n47 : ¬ a.1 55 14 = c8 47) : rel (F_X7_readSum_L13 p (cn t) a) (rcont p b) (PRO T len 0 m B i0 k a0 b0) := by
  obtain ⟨h1, h2, h3, h4⟩ := h
  have hK := (PR_facts hS h1 h2).1
  have him := h1.2.1
  have m4 := hS.2.2.1
  rw [RS_bw, rcont_eq, PL_bw]
  unfold F_X7_readSum_B13 F_X7_isReckoning F_X12_product_B9 F_X7_readSum_114
  rw [if_neg (fun q => by have q := (cle (x := c16 400) (a := 400) (y := cn t) (by decide) rfl (by omega) (by omega)).mp q; omega), if_neg n43, if_neg n45, if_neg n42, if_neg n47, b1_some, if_pos c0e0, bw_b1r, if_neg (fun q => n42 ((K_times hK).mp q)), if_neg (fun q => n47 ((K_part hK).mp q)), bw_r, b2_some, if_neg c1n0]
  refine rel_b1 (S_pend (R := fun u w => ∃ nc', CP T len m B i u ∧ RP T len 0 m B i w ∧ CodeR nc' [] u w ∧ nc' + k ≤ i ∧ CG a u ∧ RG b w) hp h1 h2 h3 h4 (by omega) (fun u w nc' q1 q2 q3 q4 q5 q6 => ⟨nc', q1, q2, q3, q4, q5, q6⟩)) (fun u w q => ?_)
  obtain ⟨nc', q1, q2, q3, q4, q5, q6⟩ := q
  have hK2 := (PR_facts hS q1 q2).1
  have ek := CP_kind h1 q1 (CG_66 q5)
  rw [SL_bw]
  unfold F_X12_sumUp_B9
  rw [if_neg (fun q => n43 (ek ▸ (K_plus hK2).mp q)), if_neg (fun q => n45 (ek ▸ (K_less hK2).mp q)), bw_r]
  exact rel_some ⟨rfl, CG_tr hC q5, RG_tr hR q6, fun e => absurd e c1n0, fun _ => ⟨i, nc', hi0, q1, q2, q3, q4⟩⟩
theorem S_sum {k : Nat} {a0 b0 : mG} {i0 : Nat} (hS : ST T len 0 m B) : ∀ (n i nc t : Nat) (p : Int32) (a b : mG), m - i ≤ n → i0 < i → t < i → (p = ci (-1) ∨ p = ci 2 ∨ p = ci 3) → SX T len 0 m B i nc (k + pn p) [] a b → CG a0 a → RG b0 b → rel (F_X7_readSum_L13 p (cn t) a) (rcont p b) (PRO T len 0 m B i0 k a0 b0) := by
  intro n
  induction n with
  | zero =>
    intro i nc t p a b hn hi0 ht hp h hC hR
    have him := h.1.2.1
    have hk := (PR_facts hS h.1 h.2.1).2.2.2.mpr (by omega)
    exact S_sum_end hS hi0 ht hp h hC hR (by rw [hk]; decide) (by rw [hk]; decide) (by rw [hk]; decide) (by rw [hk]; decide)
  | succ n ih =>
    intro i nc t p a b hn hi0 ht hp h hC hR
    have h0 := h
    obtain ⟨h1, h2, h3, h4⟩ := h
    have hK := (PR_facts hS h1 h2).1
    have him := h1.2.1
    have m4 := hS.2.2.1
    have nt : ¬ c16 400 ≤ cn t := fun q => by have q := (cle (x := c16 400) (a := 400) (y := cn t) (by decide) rfl (by omega) (by omega)).mp q; omega
    -- what a failed piece comes to
    have fail : ∀ (x : mG) (y : mG) (i1 k1 : Nat) (a1 b1' : mG) (v w : Int32), CG a0 a1 → RG b0 b1' → PRO T len 0 m B i1 k1 a1 b1' (v, x) (w, y) → v = 0 → PRO T len 0 m B i0 k a0 b0 (ci 0, x) (ci 0, y) := fun x y i1 k1 a1 b1' v w c1 c2 q e => ⟨rfl, CG_tr c1 q.2.1, RG_tr c2 q.2.2.1, fun _ => q.2.2.2.1 e, fun e => absurd c0e0 e⟩
    by_cases n43 : a.1 55 14 = c8 43
    · have hi : i < m := S_lt hS h1 h2 (by rw [n43]; decide)
      rw [RS_bw, rcont_eq, PL_bw]
      unfold F_X7_readSum_B13 F_X7_isReckoning F_X7_isReckoning_24 F_X12_product_B9
      rw [if_neg nt, if_pos n43, b1_some, if_neg c1n0, bw_b1, if_neg (fun q => absurd (n43.symm.trans ((K_times hK).mp q)) (by decide)), if_neg (fun q => absurd (n43.symm.trans ((K_part hK).mp q)) (by decide)), bw_r, b2_some, if_neg c1n0]
      refine rel_l1 (V_stepOn h1 hi) (fun u hu => ?_)
      rw [if_pos n43]
      unfold F_X7_readSum_51 F_X7_readSum_67
      rw [bw_b1]
      refine rel_b1 (S_pend (l := i) (R := fun u2 w => ∃ nc', CP T len m B (i + 1) u2 ∧ RP T len 0 m B i w ∧ CodeR nc' [] u2 w ∧ nc' + k ≤ i ∧ CG u u2 ∧ RG b w) hp hu.1 h2 (CodeR_step h3 hu.2 NF_rfl) h4 (by omega) (fun u2 w nc' q1 q2 q3 q4 q5 q6 => ⟨nc', q1, q2, q3, q4, q5, q6⟩)) (fun u2 w q => ?_)
      obtain ⟨nc', q1, q2, q3, q4, q5, q6⟩ := q
      have hK2 := (PR_facts hS h1 q2).1
      rw [SL_bw]
      unfold F_X12_sumUp_B9 F_X12_sumUp_29
      rw [if_pos ((K_plus hK2).mpr n43), if_pos ((K_plus hK2).mpr n43), sumUp_46 (p := ci 2) (by decide) (if_pos rfl).symm, if_pos n43]
      refine rel_r1 (V_next hS q1.1 q2 hi) (fun w2 hw => ?_)
      unfold F_X7_readSum_68 F_X7_readSum_91
      rw [if_neg (fun e => absurd (n43.symm.trans e) (by decide)), bw_b2]
      have c1 : CG a0 u2 := CG_tr hC (CG_tr (CG_step hu.2) q5)
      have c2 : RG b0 w2 := RG_tr hR (RG_tr q6 (RG_next hw.2))
      refine rel_b2 (S_unit (k := k + 1) hS ⟨q1, hw.1, CodeR_step q3 CFr_rfl hw.2, by omega⟩) (fun v u3 v2 w3 q => ?_)
      have ev : v = v2 := q.1
      by_cases hv : v = 0
      · rw [if_pos hv, if_pos (ev ▸ hv), bw_b1r]
        exact rel_some (fail _ _ _ _ _ _ _ _ c1 c2 q hv)
      · rw [if_neg hv, if_neg (fun e => hv (ev.trans e))]
        obtain ⟨i', nc2, z1, z2⟩ := q.2.2.2.2 hv
        unfold F_X7_readSum_93 F_X7_readSum_105 F_X7_emitIfAny
        rw [if_neg (fun e => absurd (n43.symm.trans e) (by decide)), if_pos rfl, b1_some, bw_l, cnu (by omega)]
        exact ih i' nc2 (t + 1) (ci 2) u3 w3 (by omega) (by omega) (by omega) (Or.inr (Or.inl rfl)) z2 (CG_tr c1 q.2.1) (RG_tr c2 q.2.2.1)
    by_cases n45 : a.1 55 14 = c8 45
    · have hi : i < m := S_lt hS h1 h2 (by rw [n45]; decide)
      rw [RS_bw, rcont_eq, PL_bw]
      unfold F_X7_readSum_B13 F_X7_isReckoning F_X7_isReckoning_24 F_X12_product_B9
      rw [if_neg nt, if_neg n43, if_pos n45, b1_some, if_neg c1n0, bw_b1, if_neg (fun q => absurd (n45.symm.trans ((K_times hK).mp q)) (by decide)), if_neg (fun q => absurd (n45.symm.trans ((K_part hK).mp q)) (by decide)), bw_r, b2_some, if_neg c1n0]
      refine rel_l1 (V_stepOn h1 hi) (fun u hu => ?_)
      rw [if_neg n43, if_pos n45]
      unfold F_X7_readSum_51 F_X7_readSum_67
      rw [bw_b1]
      refine rel_b1 (S_pend (l := i) (R := fun u2 w => ∃ nc', CP T len m B (i + 1) u2 ∧ RP T len 0 m B i w ∧ CodeR nc' [] u2 w ∧ nc' + k ≤ i ∧ CG u u2 ∧ RG b w) hp hu.1 h2 (CodeR_step h3 hu.2 NF_rfl) h4 (by omega) (fun u2 w nc' q1 q2 q3 q4 q5 q6 => ⟨nc', q1, q2, q3, q4, q5, q6⟩)) (fun u2 w q => ?_)
      obtain ⟨nc', q1, q2, q3, q4, q5, q6⟩ := q
      have hK2 := (PR_facts hS h1 q2).1
      rw [SL_bw]
      unfold F_X12_sumUp_B9 F_X12_sumUp_29
      rw [if_neg (fun q => n43 ((K_plus hK2).mp q)), if_pos ((K_less hK2).mpr n45), if_neg (fun q => n43 ((K_plus hK2).mp q)), sumUp_46 (p := ci 3) (by decide) (if_neg (by decide)).symm, if_neg n43]
      refine rel_r1 (V_next hS q1.1 q2 hi) (fun w2 hw => ?_)
      unfold F_X7_readSum_68 F_X7_readSum_91
      rw [if_neg (fun e => absurd (n45.symm.trans e) (by decide)), bw_b2]
      have c1 : CG a0 u2 := CG_tr hC (CG_tr (CG_step hu.2) q5)
      have c2 : RG b0 w2 := RG_tr hR (RG_tr q6 (RG_next hw.2))
      refine rel_b2 (S_unit (k := k + 1) hS ⟨q1, hw.1, CodeR_step q3 CFr_rfl hw.2, by omega⟩) (fun v u3 v2 w3 q => ?_)
      have ev : v = v2 := q.1
      by_cases hv : v = 0
      · rw [if_pos hv, if_pos (ev ▸ hv), bw_b1r]
        exact rel_some (fail _ _ _ _ _ _ _ _ c1 c2 q hv)
      · rw [if_neg hv, if_neg (fun e => hv (ev.trans e))]
        obtain ⟨i', nc2, z1, z2⟩ := q.2.2.2.2 hv
        unfold F_X7_readSum_93 F_X7_readSum_105 F_X7_emitIfAny
        rw [if_neg (fun e => absurd (n45.symm.trans e) (by decide)), if_pos rfl, b1_some, bw_l, cnu (by omega)]
        exact ih i' nc2 (t + 1) (ci 3) u3 w3 (by omega) (by omega) (by omega) (Or.inr (Or.inr rfl)) z2 (CG_tr c1 q.2.1) (RG_tr c2 q.2.2.1)
    by_cases n42 : a.1 55 14 = c8 42
    · have hi : i < m := S_lt hS h1 h2 (by rw [n42]; decide)
      rw [RS_bw, rcont_eq, PL_bw]
      unfold F_X7_readSum_B13 F_X7_isReckoning F_X7_isReckoning_24 F_X12_product_B9 F_X12_product_29 F_X12_product_44 F_X12_product_112
      rw [if_neg nt, if_neg n43, if_neg n45, if_pos n42, b1_some, if_neg c1n0, bw_b1, if_pos ((K_times hK).mpr n42), if_neg (fun q => absurd (n42.symm.trans ((K_part hK).mp q)) (by decide)), bw_b1, b2_b1]
      refine rel_b1 (S_step (k' := k + pn p + 1) hS h1 h2 h3 hi (by omega)) (fun u w q => ?_)
      obtain ⟨q1, q2, q3⟩ := q
      rw [if_neg n43, if_neg n45, if_pos c0e0, bw_b2, b2_b2]
      unfold F_X7_readSum_68 F_X7_readSum_91
      rw [if_neg (fun e => absurd (n42.symm.trans e) (by decide)), bw_b2]
      refine rel_b2 (S_unit hS q1) (fun v u2 v2 w2 q => ?_)
      have ev : v = v2 := q.1
      by_cases hv : v = 0
      · rw [if_pos hv, if_pos (ev ▸ hv), bw_r, b2_some, if_pos c0e0, bw_b1r]
        exact rel_some (fail _ _ _ _ _ _ _ _ (CG_tr hC (CG_step q2)) (RG_tr hR (RG_next q3)) q hv)
      · rw [if_neg hv, if_neg (fun e => hv (ev.trans e))]
        obtain ⟨i', nc', z1, z2⟩ := q.2.2.2.2 hv
        obtain ⟨y1, y2, y3, y4⟩ := z2
        have him' := y1.2.1
        unfold F_X7_readSum_93 F_X7_readSum_105 F_X7_emitIfAny
        rw [if_pos n42, if_neg (by decide), b1_id, bw_b1, bw_b1, b2_b1]
        refine rel_b1 (S_emit y1 y2 y3 (EN_op (q := (25, 4)) (by decide) (by decide) (by decide)) (by omega)) (fun u3 w3 q' => ?_)
        obtain ⟨x1, x2, x3, x4, x5⟩ := q'
        rw [bw_l, bw_l, cnu (by omega)]
        have hr := ih i' (nc' + 1) (t + 1) p u3 w3 (by omega) (by omega) (by omega) hp ⟨x1, x2, x3, by omega⟩ (CG_tr hC (CG_tr (CG_step q2) (CG_tr q.2.1 x4))) (RG_tr hR (RG_tr (RG_next q3) (RG_tr q.2.2.1 x5)))
        rw [rcont_eq] at hr
        exact hr
    by_cases n47 : a.1 55 14 = c8 47
    · have hi : i < m := S_lt hS h1 h2 (by rw [n47]; decide)
      rw [RS_bw, rcont_eq, PL_bw]
      unfold F_X7_readSum_B13 F_X7_isReckoning F_X7_isReckoning_24 F_X12_product_B9 F_X12_product_29 F_X12_product_44 F_X12_product_112
      rw [if_neg nt, if_neg n43, if_neg n45, if_neg n42, if_pos n47, b1_some, if_neg c1n0, bw_b1, if_neg (fun q => n42 ((K_times hK).mp q)), if_pos ((K_part hK).mpr n47), if_pos ((K_part hK).mpr n47), bw_b1, b2_b1]
      refine rel_b1 (S_step (k' := k + pn p + 1) hS h1 h2 h3 hi (by omega)) (fun u w q => ?_)
      obtain ⟨⟨g1, g2, g3, g4⟩, q2, q3⟩ := q
      rw [if_neg n43, if_neg n45, if_neg c1n0]
      unfold F_X7_readSum_68 F_X7_readSum_91 F_X7_readPart
      obtain ⟨hKu, hpl, hval, _⟩ := PR_facts hS g1 g2
      rw [if_pos n47, bw_b2]
      have c1 : CG a0 u := CG_tr hC (CG_step q2)
      have c2 : RG b0 w := RG_tr hR (RG_next q3)
      -- both refuse
      have no : ∀ y : Int32, rel (b2 (b2 (F_X7_refuse y u) fun v s => if v = 0 ∨ v = 1 then some (v, s) else none) fun v s => bw (if v = 0 then b1 (some ((ci 0), s)) fun τ => some (Sum.inr τ) else F_X7_readSum_93 p (cn t) (a.1 55 14) s) (fun v => F_X7_readSum_L13 v.1 v.2.1 v.2.2)) (b2 (bw (b2 (F_X12_bad y w) fun v s => if v = 0 ∨ v = 1 then some (Sum.inr (v, s)) else none) F_X12_product_L9) fun v s => if v = 0 then some ((ci 0), s) else b1 (if p = ci (-1) then some s else F_X12_lay (if p = ci 2 then c8 23 else c8 24) (ci 0) s) fun s14 => F_X12_sumUp_L9 s14) (PRO T len 0 m B i0 k a0 b0) := by
        intro y
        have ff := S_fail (w := y) hS g1 g2 c1 c2 i0 k
        rw [V_refuse, V_bad] at ff ⊢
        rw [b2_some, if_pos pbo0, b2_some, if_pos c0e0, bw_b1r, b2_some, if_pos pbo0, bw_r, b2_some, if_pos c0e0]
        exact ff
      by_cases hN : u.1 55 14 = c8 (-2)
      · have hr : w.1 88 17 = ci 2 := (K_num hKu).mpr hN
        have hv := hval hN
        rw [if_pos hN, if_pos hr]
        by_cases hz : u.1 55 15 = 0
        · rw [if_pos hz, if_pos (hv ▸ hz)]
          exact no (ci 2)
        · rw [if_neg hz, if_neg (fun e => hz (hv.trans e))]
          have hi2 : i + 1 < m := S_lt hS g1 g2 (by rw [hN]; decide)
          have hb := RP_num hS g2 hr
          have hb1 : 1 ≤ (w.1 88 19).toInt := by
            have : (w.1 88 19).toInt ≠ 0 := fun e => hz (hv.trans (Int32.toInt_inj.mp (e.trans t_zero.symm)))
            omega
          rw [V_push g3.1 g3.2.1 (by omega), b1_some, b2_b1]
          refine rel_l1 (V_stepOn (CP_code g1) hi2) (fun u3 hu3 => ?_)
          rw [b2_some, if_neg c1n0, bw_b1, b2_b1]
          refine rel_r1 (V_next hS g1.1 g2 hi2) (fun w2 hw2 => ?_)
          have h13 : w2.1 88 13 = cn nc := (CodeR_step g3 CFr_rfl hw2.2).2.2.1
          rw [bw_b1, b2_b1]
          refine rel_r1 (V_lay h13 (by omega)) (fun w3 hw3 => ?_)
          subst hw3
          have hcode : CodeR (nc + 1) [] u3 (mu (mu (mu w2.1 93 (2 * nc) (c8 26)) 93 (2 * nc + 1) (w.1 88 19)) 88 13 (cn (nc + 1)), w2.2) :=
            CodeR_step (CodeR_add (u := (mu (mu u.1 58 3 (cn (nc + 1))) 59 nc (ci 50000 + u.1 55 15), u.2)) (w := (mu (mu (mu w2.1 93 (2 * nc) (c8 26)) 93 (2 * nc + 1) (w.1 88 19)) 88 13 (cn (nc + 1)), w2.2)) (CodeR_step g3 CFr_rfl hw2.2) (Or.inr (Or.inr (Or.inl ⟨by decide, by rw [hv], hb1, hb.2⟩))) rfl rfl) hu3.2 NF_rfl
          unfold F_X7_readSum_93 F_X7_readSum_105 F_X7_emitIfAny
          rw [if_neg (fun e => absurd (n47.symm.trans e) (by decide)), if_pos rfl, b1_some, bw_l, bw_l, cnu (by omega)]
          have hr := ih (i + 1 + 1) (nc + 1) (t + 1) p u3 _ (by omega) (by omega) (by omega) hp ⟨hu3.1, RP_lay hw2.1, hcode, by omega⟩ (CG_tr c1 (CG_tr CG_code (CG_step hu3.2))) (RG_tr c2 (RG_tr (RG_next hw2.2) RG_lay))
          rw [rcont_eq] at hr
          exact hr
      · rw [if_neg hN, if_neg (fun q => hN ((K_num hKu).mp q))]
        exact no (ci 1)
    exact S_sum_end hS hi0 ht hp h0 hC hR n43 n45 n42 n47
/-- a sum -/
theorem S_readSum {i nc k : Nat} {a b : mG} (hS : ST T len 0 m B) (h : SX T len 0 m B i nc k [] a b) : rel (F_X7_readSum a) (F_X12_sumUp b) (PRO T len 0 m B i k a b) := by
  rw [sumUp_rc]
  unfold F_X7_readSum
  refine rel_b2 (S_unit hS h) (fun v u v2 w q => ?_)
  have ev : v = v2 := q.1
  by_cases hv : v = 0
  · rw [if_pos hv, if_pos (ev ▸ hv)]
    exact rel_some ⟨rfl, q.2.1, q.2.2.1, fun _ => q.2.2.2.1 hv, fun e => absurd c0e0 e⟩
  · rw [if_neg hv, if_neg (fun e => hv (ev.trans e))]
    obtain ⟨i', nc', z1, z2⟩ := q.2.2.2.2 hv
    exact S_sum (i0 := i) hS (m - i') i' nc' 0 (ci (-1)) u w (Nat.le_refl _) z1 (by omega) (Or.inl rfl) z2 q.2.1 q.2.2.1
end SUM
end
end
/-! 5h.cond -/
section
noncomputable section
/-! A CONDITION OF THE LAW: calls within calls there, a row of what waits here -/
def WC : List Int32 → (Nat → Int32) → Prop
  | [], _ => True
  | x :: W, c => c W.length = x ∧ WC W c
def opn : List Int32 → Nat
  | [] => 0
  | x :: W => (if x = c8 40 ∨ x = c16 274 then 1 else 0) + opn W
theorem mu_row2 {D E : Nat → Nat → Int32} {i k : Nat} {v : Int32} (h : D i = E i) : mu D i k v i = mu E i k v i := by
  funext j
  show mu D i k v i j = mu E i k v i j
  rw [mu_ap, mu_ap, h]
theorem WC_cong : ∀ (W : List Int32) {c d : Nat → Int32}, (∀ j, j < W.length → d j = c j) → WC W c → WC W d := by
  intro W
  induction W with
  | nil => intro _ _ _ _; trivial
  | cons x W ih =>
    intro c d h k
    exact ⟨(h _ (by simp)).trans k.1, ih (fun j hj => h j (by simp; omega)) k.2⟩
def RH (b u : mG) : Prop := u.2 = b.2 ∧ (∀ j, j ≠ 88 → j ≠ 93 → u.1 j = b.1 j) ∧ ∀ c, c ≠ 13 → c ≠ 16 → c ≠ 17 → c ≠ 18 → c ≠ 19 → c ≠ 20 → c ≠ 21 → c ≠ 23 → u.1 88 c = b.1 88 c
theorem RH_tr {a u v : mG} (h : RH a u) (k : RH u v) : RH a v := ⟨k.1.trans h.1, fun j h1 h2 => (k.2.1 j h1 h2).trans (h.2.1 j h1 h2), fun c h1 h2 h3 h4 h5 h6 h7 h8 => (k.2.2 c h1 h2 h3 h4 h5 h6 h7 h8).trans (h.2.2 c h1 h2 h3 h4 h5 h6 h7 h8)⟩
theorem RH_RG {b u : mG} (h : RG b u) : RH b u := ⟨h.1, h.2.1, fun c h1 h2 h3 h4 h5 h6 h7 _ => h.2.2 c h1 h2 h3 h4 h5 h6 h7⟩
theorem RH_23 {b : mG} {v : Int32} : RH b (mu b.1 88 23 v, b.2) := ⟨rfl, fun j h1 _ => mu_rowQ h1, fun c _ _ _ _ _ _ _ h8 => mu_cellQ (Or.inr h8)⟩
section COND
variable {T : Nat → Int32} {len m : Nat} {B : Nat → Nat}
def WS (W : List Int32) (a : mG) : Prop := WC W (a.1 67) ∧ a.1 55 7 = cn W.length ∧ a.1 55 8 = cn (opn W)
def SC (T : Nat → Int32) (len m : Nat) (B : Nat → Nat) (i nc : Nat) (pend : List Nat) (W : List Int32) (a b : mG) : Prop := CP T len m B i a ∧ RP T len 0 m B i b ∧ CodeR nc pend a b ∧ WS W a ∧ b.1 88 23 = cn (opn W) ∧ opn W ≤ 8 ∧ nc + W.length ≤ i
/-! kinds -/
theorem K_or {kc kr : Int32} (h : KP 0 kc kr) : kr = ci 4 ↔ kc = c16 272 := KP_iff (v := 4) (z := 272) (by decide) (by decide) (by decide +kernel) h
theorem K_and {kc kr : Int32} (h : KP 0 kc kr) : kr = ci 5 ↔ kc = c16 273 := KP_iff (v := 5) (z := 273) (by decide) (by decide) (by decide +kernel) h
theorem K_not {kc kr : Int32} (h : KP 0 kc kr) : kr = c8 6 ↔ kc = c16 274 := KP_iff (v := 6) (z := 274) (by decide) (by decide) (by decide +kernel) h
theorem K_open {kc kr : Int32} (h : KP 0 kc kr) : kr = c16 140 ↔ kc = c8 40 := KP_iff (v := 140) (z := 40) (by decide) (by decide) (by decide +kernel) h
theorem K_close {kc kr : Int32} (h : KP 0 kc kr) : kr = c16 141 ↔ kc = c8 41 := KP_iff (v := 141) (z := 41) (by decide) (by decide) (by decide +kernel) h
theorem K_below {kc kr : Int32} (h : KP 0 kc kr) : kr = c16 160 ↔ kc = ci 60 := KP_iff (v := 160) (z := 60) (by decide) (by decide) (by decide +kernel) h
theorem K_same {kc kr : Int32} (h : KP 0 kc kr) : kr = c16 161 ↔ kc = ci 61 := KP_iff (v := 161) (z := 61) (by decide) (by decide) (by decide +kernel) h
theorem K_above {kc kr : Int32} (h : KP 0 kc kr) : kr = c16 162 ↔ kc = ci 62 := KP_iff (v := 162) (z := 62) (by decide) (by decide) (by decide +kernel) h
/-! the row of what waits -/
theorem V_cell67 {s : mG} {k : Nat} (h : k < 64) : F_X11_cell 67 s (cn k) = some (s.1 67 k) := by
  have h1 : mal 67 = some 64 := by decide +kernel
  have h4 : mia s 67 (cn k) = some (s.1 67 (cn k).toNatClampNeg) := by
    unfold mia
    rw [show SH[67]? = some (.inl (0, 64, [])) by decide +kernel]
    simp only [if_neg (cn_ix h (by omega))]
  unfold F_X11_cell
  rw [if_neg (cn_nn (by omega)), h1, b1_some, if_neg (fun q => absurd ((cn_le (by omega) (by omega)).mp q) (by omega)), h4, b1_some, cn_nat (by omega)]
theorem V_put67 {s : mG} {k : Nat} {v : Int32} (h : k < 64) : F_X11_put 67 (cn k) v s = some (mu s.1 67 k v, s.2) := by
  have h1 : mal 67 = some 64 := by decide +kernel
  have h2 : SH[67]? = some (.inl (0, 64, [])) := by decide +kernel
  unfold F_X11_put
  rw [if_neg (cn_nn (by omega)), h1, b1_some, if_neg (fun q => absurd ((cn_le (by omega) (by omega)).mp q) (by omega)), h2]
  simp only [bs]
  rw [if_neg (cn_ix h (by omega)), cn_nat (by omega)]
def topW : List Int32 → Int32
  | [] => ci (-1)
  | x :: _ => x
theorem V_last {a : mG} {W : List Int32} (h1 : WC W (a.1 67)) (h2 : a.1 55 7 = cn W.length) (h3 : W.length ≤ 64) : F_X7_lastWaiting a = some (topW W) := by
  unfold F_X7_lastWaiting
  rw [h2]
  cases W with
  | nil => rw [if_pos (by decide)]; rfl
  | cons x W =>
    have hl : (x :: W).length = W.length + 1 := rfl
    rw [hl] at h3 ⊢
    rw [if_neg (fun q => absurd ((cle (x := cn (W.length + 1)) (y := 0) (b := 0) rfl (by decide) (by omega) (by omega)).mp q) (by omega)), show cn (W.length + 1) - ci 1 = cn W.length from (cn_sub (a := W.length + 1) (b := 1) (by omega) (by omega)).trans (by rw [Nat.add_sub_cancel]), V_cell67 (by omega), b1_some, h1.1]
    rfl
/-- what holding, popping, laying leave of the class -/
def CW (a u : mG) : Prop := (∀ j, j ≠ 55 → j ≠ 58 → j ≠ 59 → j ≠ 67 → u.1 j = a.1 j) ∧ (∀ c, c ≠ 7 → c ≠ 8 → u.1 55 c = a.1 55 c) ∧ ∀ c, c ≠ 3 → u.1 58 c = a.1 58 c
theorem CW_tr {a u v : mG} (h : CW a u) (k : CW u v) : CW a v := ⟨fun j h1 h2 h3 h4 => (k.1 j h1 h2 h3 h4).trans (h.1 j h1 h2 h3 h4), fun c h1 h2 => (k.2.1 c h1 h2).trans (h.2.1 c h1 h2), fun c hc => (k.2.2 c hc).trans (h.2.2 c hc)⟩
theorem CW_rfl {a : mG} : CW a a := ⟨fun _ _ _ _ _ => rfl, fun _ _ _ => rfl, fun _ _ => rfl⟩
theorem CP_CW {i : Nat} {a u : mG} (h : CP T len m B i a) (k : CW a u) : CP T len m B i u := by
  obtain ⟨h1, h2, h3, h4, h5, h6⟩ := h
  have e66 : u.1 66 = a.1 66 := k.1 66 (by omega) (by omega) (by omega) (by omega)
  refine ⟨TKA_row h1 (k.1 65 (by omega) (by omega) (by omega) (by omega)) e66, h2, ?_, ?_, ?_, ?_⟩
  · rw [k.2.1 12 (by omega) (by omega)]; exact h3
  · rw [k.2.1 14 (by omega) (by omega), e66]; exact h4
  · rw [k.2.1 15 (by omega) (by omega), e66]; exact h5
  · rw [k.2.1 16 (by omega) (by omega), e66]; exact h6
theorem V_hold {a : mG} {W : List Int32} {x : Int32} (h1 : WC W (a.1 67)) (h2 : a.1 55 7 = cn W.length) (h3 : W.length < 64) : pk (F_X7_hold x a) (fun u => WC (x :: W) (u.1 67) ∧ u.1 55 7 = cn (x :: W).length ∧ u.1 55 8 = a.1 55 8 ∧ u.1 58 = a.1 58 ∧ u.1 59 = a.1 59 ∧ CW a u) := by
  unfold F_X7_hold
  rw [h2, V_put67 h3, b1_some]
  refine pk_some ⟨⟨?_, WC_cong W (fun j hj => ?_) h1⟩, ?_, ?_, ?_, ?_, fun j q1 q2 q3 q4 => ?_, fun c q1 q2 => ?_, fun c _ => ?_⟩
  all_goals dsimp only
  · rw [mu_row (by omega), mu_same]
  · rw [mu_row (by omega), mu_cell (by omega)]
  · rw [mu_same, mu_row (by omega), h2, cnu (by omega)]; rfl
  · rw [mu_cell (by omega), mu_row (by omega)]
  · rw [mu_row (by omega), mu_row (by omega)]
  · rw [mu_row (by omega), mu_row (by omega)]
  · rw [mu_row q1, mu_row q4]
  · rw [mu_cell (by omega), mu_row (by omega)]
  · rw [mu_row (by omega), mu_row (by omega)]
/-! laying what waits -/
def sc (x : Int32) : Nat := if x = c16 273 then 31 else 32
theorem CodeR_pop {nc p : Nat} {rest : List Nat} {a b u : mG} {x : Int32} (h : CodeR nc (p :: rest) a b) (he : ∀ v, EN x (cn p) v) (h58 : u.1 58 = mu a.1 58 3 (cn (nc + 1)) 58) (h59 : u.1 59 = mu a.1 59 nc x 59) : CodeR (nc + 1) rest u b := by
  obtain ⟨⟨h0, h1⟩, h3, h13, hE, hP⟩ := h
  refine ⟨⟨?_, ?_⟩, ?_, ?_, fun j hj => ?_, fun j hj => ?_⟩
  · rw [h58, mu_cell (by omega)]; exact h0
  · rw [h58, mu_cell (by omega)]; exact h1
  · rw [h58, mu_same]
  · rw [h13]; congr 1; simp; omega
  · rw [h59]
    by_cases hjn : j = nc
    · subst hjn
      have e := hP 0 (by simp)
      rw [Nat.add_zero] at e
      rw [mu_same, e]; exact he _
    · rw [mu_cell (by omega)]; exact hE j (by omega)
  · have e := hP (j + 1) (by simp; omega)
    rw [show nc + 1 + j = nc + (j + 1) by omega]
    exact e
theorem EN_sc {x v : Int32} (h : x = c16 273 ∨ x = c16 272) : EN ((if x = c16 273 then c8 10 else c8 11) * c16 10000) (cn (sc x)) v := by
  rcases h with e | e
  · subst e; exact EN_op (q := (31, 10)) (by decide) (by decide) (by decide)
  · subst e; exact EN_op (q := (32, 11)) (by decide) (by decide) (by decide)
theorem JW_bw {x1 x2 : Int32} {a : mG} : F_X7_joinWhatWaits_L2 x1 x2 a = bw (F_X7_joinWhatWaits_B2 x1 x2 a) (fun v => F_X7_joinWhatWaits_L2 v.1 v.2.1 v.2.2) := whl_bw _ _
/-- what joins: ps, down to W0 -/
theorem V_join {b : mG} {W0 : List Int32} {rest : List Nat} {x1 : Int32} (hx : x1 = ci 0 ∨ x1 = ci 1) (hW : topW W0 ≠ c16 273 ∧ (topW W0 = c16 272 → x1 = ci 1)) : ∀ (ps : List Int32) (t nc : Nat) (a : mG), (∀ s, s ∈ ps → s = c16 273 ∨ (s = c16 272 ∧ x1 = ci 0)) → t + ps.length < 64 → nc + ps.length ≤ 400 → (ps ++ W0).length ≤ 64 → WC (ps ++ W0) (a.1 67) → a.1 55 7 = cn (ps ++ W0).length → CodeR nc (ps.map sc ++ rest) a b → pk (F_X7_joinWhatWaits_L2 x1 (cn t) a) (fun u => WC W0 (u.1 67) ∧ u.1 55 7 = cn W0.length ∧ u.1 55 8 = a.1 55 8 ∧ CodeR (nc + ps.length) rest u b ∧ CW a u) := by
  intro ps
  induction ps with
  | nil =>
    intro t nc a _ ht _ hl h1 h2 h3
    rw [JW_bw]
    unfold F_X7_joinWhatWaits_B2
    rw [if_neg (fun q => by have q := (cle (x := c8 64) (a := 64) (y := cn t) (by decide) rfl (by omega) (by omega)).mp q; simp at ht; omega), V_last (W := W0) h1 h2 hl, b1_some, if_neg hW.1]
    by_cases ho : topW W0 = c16 272
    · rw [if_pos ho, hW.2 ho, if_neg c1n0, bw_r]
      exact pk_some ⟨h1, h2, rfl, h3, CW_rfl⟩
    · rw [if_neg ho, bw_r]
      exact pk_some ⟨h1, h2, rfl, h3, CW_rfl⟩
  | cons x ps ih =>
    intro t nc a hps ht hn hl h1 h2 h3
    have hx0 := hps x (by simp)
    have hlc : (x :: ps ++ W0).length = (ps ++ W0).length + 1 := rfl
    have hpc : (x :: ps).length = ps.length + 1 := rfl
    rw [hpc] at ht hn
    rw [hlc] at hl h2
    rw [JW_bw]
    unfold F_X7_joinWhatWaits_B2 F_X7_joinWhatWaits_32
    rw [if_neg (fun q => by have q := (cle (x := c8 64) (a := 64) (y := cn t) (by decide) rfl (by omega) (by omega)).mp q; omega), V_last (W := x :: (ps ++ W0)) h1 h2 (by rw [show (x :: (ps ++ W0)).length = (ps ++ W0).length + 1 from rfl]; omega), b1_some]
    have ht : topW (x :: (ps ++ W0)) = x := rfl
    rw [ht]
    -- one is laid
    have go : pk (bw (F_X7_joinWhatWaits_50 x1 (cn t) (if x = c16 273 then c8 10 else c8 11) a) (fun v => F_X7_joinWhatWaits_L2 v.1 v.2.1 v.2.2)) (fun u => WC W0 (u.1 67) ∧ u.1 55 7 = cn W0.length ∧ u.1 55 8 = a.1 55 8 ∧ CodeR (nc + (x :: ps).length) rest u b ∧ CW a u) := by
      unfold F_X7_joinWhatWaits_50
      have hC : C58 a := h3.1
      rw [V_push hC h3.2.1 (by omega), b1_some, bw_l, cnu (by omega)]
      dsimp only
      have e7 : mu (mu a.1 58 3 (cn (nc + 1))) 59 nc ((if x = c16 273 then c8 10 else c8 11) * c16 10000) 55 7 - ci 1 = cn (ps ++ W0).length := by
        rw [mu_row (by omega), mu_row (by omega), h2]
        exact (cn_sub (a := (ps ++ W0).length + 1) (b := 1) (by omega) (by omega)).trans (by rw [Nat.add_sub_cancel])
      rw [e7]
      generalize hD : mu (mu (mu a.1 58 3 (cn (nc + 1))) 59 nc ((if x = c16 273 then c8 10 else c8 11) * c16 10000)) 55 7 (cn (ps ++ W0).length) = D
      have dr : ∀ j, j ≠ 55 → j ≠ 58 → j ≠ 59 → D j = a.1 j := fun j q1 q2 q3 => by rw [← hD, mu_row q1, mu_row q3, mu_row q2]
      have d55 : ∀ c, c ≠ 7 → D 55 c = a.1 55 c := fun c q1 => by rw [← hD, mu_cell (Or.inr q1), mu_row (by omega), mu_row (by omega)]
      have d7 : D 55 7 = cn (ps ++ W0).length := by rw [← hD, mu_same]
      have d58 : D 58 = mu a.1 58 3 (cn (nc + 1)) 58 := by rw [← hD, mu_row (by omega), mu_row (by omega)]
      have d59 : D 59 = mu a.1 59 nc ((if x = c16 273 then c8 10 else c8 11) * c16 10000) 59 := by
        rw [← hD, mu_row (by omega)]
        exact mu_row2 (mu_row (by omega))
      have cw : CW a (D, a.2) := ⟨fun j q1 q2 q3 _ => dr j q1 q2 q3, fun c q1 _ => d55 c q1, fun c hc => (congrFun d58 c).trans (mu_cell (Or.inr hc))⟩
      have hc2 : CodeR (nc + 1) (ps.map sc ++ rest) (D, a.2) b := CodeR_pop h3 (fun v => EN_sc (hx0.elim Or.inl (fun q => Or.inr q.1))) d58 d59
      have wc2 : WC (ps ++ W0) (((D, a.2) : mG).1 67) := by
        rw [show ((D, a.2) : mG).1 67 = a.1 67 from dr 67 (by omega) (by omega) (by omega)]
        exact h1.2
      refine fun u hu => ?_
      obtain ⟨g1, g2, g3, g4, g5⟩ := ih (t + 1) (nc + 1) (D, a.2) (fun s hs => hps s (List.mem_cons_of_mem _ hs)) (by omega) (by omega) (by omega) wc2 d7 hc2 u hu
      exact ⟨g1, g2, g3.trans (d55 8 (by omega)), by rw [hpc, show nc + (ps.length + 1) = nc + 1 + ps.length by omega]; exact g4, CW_tr cw g5⟩
    rcases hx0 with e | ⟨e, e0⟩
    · rw [if_pos e, if_pos e]
      rw [if_pos e] at go
      exact go
    · have ne : ¬ x = c16 273 := by rw [e]; decide
      rw [if_neg ne, if_pos e, e0, if_pos c0e0, if_neg ne]
      rw [if_neg ne, e0] at go
      exact go
end COND
end
end
/-! 5i.class -/
section
noncomputable section
/-! A CONDITION: what is left for the class to do -/
def crest (x1 : Int32) (v6 : Int32) (s5 : mG) : Option ((Int32 × mG) ⊕ (Int32 × mG)) :=
  if v6 = 0 then
    b1 (F_X7_readCondition_33 s5) fun τ => some (Sum.inr τ)
  else
    b2 (F_X7_readSum s5) fun v10 s9 =>
    if v10 = 0 then
      b1 (F_X7_readCondition_33 s9) fun τ => some (Sum.inr τ)
    else
      b1 (F_X7_stepOfComparison s9) fun v13 =>
      if v13 = (ci (-1)) then
        b2 (F_X7_refuse (ci 1) s9) fun v17 s16 =>
        if v17 = 0 ∨ v17 = 1 then
          some (Sum.inr (v17, s16))
        else none
      else
        b1 (F_X7_stepOn s9) fun s20 =>
        b2 (F_X7_readSum s20) fun v23 s22 =>
        if v23 = 0 then
          some (Sum.inr ((ci 0), s22))
        else
          b1 (F_X10_push 58 (v13 * (c16 10000)) s22) fun s26 =>
          b1 (F_X7_readClosings s26) fun s28 =>
          if (s28.1 55 14) = (c16 273) then
            F_X7_readCondition_96 x1 (ci 1) s28
          else
            F_X7_readCondition_96 x1 (ci 0) s28
def cend (x1 : Int32) (s28 : mG) : Option ((Int32 × mG) ⊕ (Int32 × mG)) := if (s28.1 55 14) = (c16 273) then F_X7_readCondition_96 x1 (ci 1) s28 else F_X7_readCondition_96 x1 (ci 0) s28
def LC (v : Int32 × mG) : Option (Int32 × mG) := F_X7_readCondition_L12 v.1 v.2
theorem RC_bw {x : Int32} {a : mG} : F_X7_readCondition_L12 x a = bw (F_X7_readCondition_B12 x a) LC := whl_bw _ _
theorem RO_bw {x : Int32} {a : mG} : F_X7_readOpenings_L2 x a = bw (F_X7_readOpenings_B2 x a) (fun v => F_X7_readOpenings_L2 v.1 v.2) := whl_bw _ _
theorem CN_bw {x : Int32} {a : mG} : F_X7_closeNots_L2 x a = bw (F_X7_closeNots_B2 x a) (fun v => F_X7_closeNots_L2 v.1 v.2) := whl_bw _ _
theorem RL_bw {x : Int32} {a : mG} : F_X7_readClosings_L6 x a = bw (F_X7_readClosings_B6 x a) (fun v => F_X7_readClosings_L6 v.1 v.2) := whl_bw _ _
/-- an operand is to be read -/
def KAO (i : Nat) (a : mG) (r : Int32 × mG) : Prop := ∃ x y : Nat, x < i ∧ y < i ∧ b2 (F_X7_readOpenings_L2 (cn y) a) (fun v s => bw (crest (cn x) v s) LC) = some r
/-- an operand is whole -/
def KOC (i o : Nat) (a : mG) (r : Int32 × mG) : Prop := ∃ x y z : Nat, x < i ∧ y < i ∧ z + o ≤ 8 ∧ b1 (F_X7_closeNots_L2 (cn z) a) (fun s2 => b1 (F_X7_readClosings_L6 (cn y) s2) fun s28 => bw (cend (cn x) s28) LC) = some r
/-- .. and each not before it -/
def KD (i : Nat) (a : mG) (r : Int32 × mG) : Prop := ∃ x y : Nat, x < i ∧ y < i ∧ b1 (F_X7_readClosings_L6 (cn y) a) (fun s28 => bw (cend (cn x) s28) LC) = some r
theorem n400 {t : Nat} (h : t < 400) : ¬ c16 400 ≤ cn t := fun q => by
  have q := (cle (x := c16 400) (a := 400) (y := cn t) (by decide) rfl (by omega) (by omega)).mp q
  omega
section CLASS
variable {T : Nat → Int32} {len m : Nat} {B : Nat → Nat} {i : Nat} {a : mG} {r : Int32 × mG} {W : List Int32}
theorem A_plain (hm : i ≤ 400) (K : KAO i a r) (n1 : ¬ a.1 55 14 = c8 40) (n2 : ¬ a.1 55 14 = c16 274) : ∃ x, x < i ∧ bw (crest (cn x) (ci 1) a) LC = some r := by
  obtain ⟨x, y, hx, hy, K⟩ := K
  rw [RO_bw] at K
  unfold F_X7_readOpenings_B2 F_X7_readOpenings_71 at K
  rw [if_neg (n400 (by omega)), if_neg n1, if_neg n2, bw_b1r, b2_some] at K
  exact ⟨x, hx, K⟩
theorem A_full (hm : i ≤ 400) (K : KAO i a r) (hk : a.1 55 14 = c8 40 ∨ a.1 55 14 = c16 274) (h8 : a.1 55 8 = cn 8) : r.1 = ci 0 ∧ r.2.1 55 10 = ci 3 ∧ r.2.1 55 11 = a.1 55 16 := by
  obtain ⟨x, y, hx, hy, K⟩ := K
  rw [RO_bw] at K
  unfold F_X7_readOpenings_B2 F_X7_readOpenings_28 at K
  have e : bw (if a.1 55 8 < c8 8 then b1 (F_X7_hold (a.1 55 14) a) fun s5 => let s6 : mG := (mu s5.1 55 8 ((s5.1 55 8) + (ci 1)), s5.2); b1 (F_X7_stepOn s6) fun s8 => some (Sum.inl ((cn y + ci 1), s8)) else b2 (F_X7_refuse (ci 3) a) fun v11 s10 => if v11 = 0 ∨ v11 = 1 then some (Sum.inr (v11, s10)) else none) (fun v => F_X7_readOpenings_L2 v.1 v.2) = some (ci 0, (mu (mu a.1 55 10 (ci 3)) 55 11 (a.1 55 16), a.2)) := by
    rw [if_neg (by rw [h8]; decide), V_refuse, b2_some, if_pos pbo0, bw_r]
  have K2 : b2 (some (ci 0, ((mu (mu a.1 55 10 (ci 3)) 55 11 (a.1 55 16), a.2) : mG))) (fun v s => bw (crest (cn x) v s) LC) = some r := by
    rcases hk with q | q
    · rw [if_neg (n400 (by omega)), if_pos q, e] at K; exact K
    · rw [if_neg (n400 (by omega)), if_neg (by rw [q]; decide), if_pos q, e] at K; exact K
  rw [b2_some] at K2
  unfold crest F_X7_readCondition_33 at K2
  rw [if_pos c0e0, bw_b1r] at K2
  have K2 := Option.some.inj K2
  subst K2
  exact ⟨rfl, (mu_cellQ (by omega)).trans mu_same, mu_sameQ⟩
theorem A_open (hC : CP T len m B i a) (hi : i < m) (hm : m ≤ 400) (hw : WS W a) (hl : W.length < 64) (ho : opn W < 8) (K : KAO i a r) (hk : a.1 55 14 = c8 40 ∨ a.1 55 14 = c16 274) : ∃ u, CP T len m B (i + 1) u ∧ WS (a.1 55 14 :: W) u ∧ u.1 58 = a.1 58 ∧ u.1 59 = a.1 59 ∧ KAO (i + 1) u r := by
  obtain ⟨x, y, hx, hy, K⟩ := K
  rw [RO_bw] at K
  unfold F_X7_readOpenings_B2 F_X7_readOpenings_28 at K
  have ho8 : a.1 55 8 < c8 8 := (clt (y := c8 8) (b := 8) hw.2.2 (by decide) (by omega) (by omega)).mpr ho
  rw [if_neg (n400 (by omega)), if_pos ho8] at K
  have K2 : b2 (b1 (F_X7_hold (a.1 55 14) a) fun s5 => b1 (F_X7_stepOn (mu s5.1 55 8 ((s5.1 55 8) + (ci 1)), s5.2)) fun s8 => F_X7_readOpenings_L2 (cn y + ci 1) s8) (fun v s => bw (crest (cn x) v s) LC) = some r := by
    rcases hk with q | q
    · rw [if_pos q] at K
      rw [← K]
      congr 1
      rw [bw_b1]
      congr 1
      funext s5
      rw [bw_b1]
      rfl
    · rw [if_neg (by rw [q]; decide), if_pos q] at K
      rw [← K]
      congr 1
      rw [bw_b1]
      congr 1
      funext s5
      rw [bw_b1]
      rfl
  clear K
  rw [b2_b1] at K2
  obtain ⟨s5, e5, K2⟩ := m_b1 K2
  obtain ⟨g1, g2, g3, g4, g5, g6⟩ := V_hold (x := a.1 55 14) hw.1 hw.2.1 hl s5 e5
  rw [b2_b1] at K2
  obtain ⟨s8, e8, K2⟩ := m_b1 K2
  have cw : CW a (mu s5.1 55 8 ((s5.1 55 8) + (ci 1)), s5.2) := CW_tr g6 ⟨fun j h1 _ _ _ => mu_rowQ h1, fun c _ h2 => mu_cellQ (Or.inr h2), fun c _ => congrFun (mu_rowQ (by omega)) c⟩
  obtain ⟨z1, z2⟩ := V_stepOn (CP_CW hC cw) hi s8 e8
  have r67 : s8.1 67 = s5.1 67 := (z2.2.1 67 (by omega)).trans (mu_rowQ (by omega))
  refine ⟨s8, z1, ⟨?_, ?_, ?_⟩, ?_, ?_, x, y + 1, by omega, by omega, ?_⟩
  · rw [r67]; exact g1
  · rw [z2.2.2 7 (by omega) (by omega) (by omega) (by omega)]; exact (mu_cellQ (by omega)).trans g2
  · rw [z2.2.2 8 (by omega) (by omega) (by omega) (by omega)]
    refine mu_sameQ.trans ?_
    rw [g3, hw.2.2, cnu (by omega)]
    show cn (opn W + 1) = cn ((if a.1 55 14 = c8 40 ∨ a.1 55 14 = c16 274 then 1 else 0) + opn W)
    rw [if_pos hk, Nat.add_comm]
  · rw [z2.2.1 58 (by omega)]; exact (mu_rowQ (by omega)).trans g4
  · rw [z2.2.1 59 (by omega)]; exact (mu_rowQ (by omega)).trans g5
  · rw [cnu (by omega)] at K2
    exact K2
theorem O_not {nc : Nat} (hw : WS (c16 274 :: W) a) (hl : W.length < 64) (h58 : C58 a) (h3 : a.1 58 3 = cn nc) (hn : nc < 400) (K : KOC i (opn (c16 274 :: W)) a r) : ∃ u, WS W u ∧ u.1 58 = mu a.1 58 3 (cn (nc + 1)) 58 ∧ u.1 59 = mu a.1 59 nc (ci 90000) 59 ∧ CW a u ∧ KOC i (opn W) u r := by
  have eo : opn (c16 274 :: W) = opn W + 1 := by
    show (if c16 274 = c8 40 ∨ c16 274 = c16 274 then 1 else 0) + opn W = _
    rw [if_pos (Or.inr rfl), Nat.add_comm]
  obtain ⟨x, y, z, hx, hy, hz, K⟩ := K
  rw [eo] at hz
  rw [CN_bw] at K
  unfold F_X7_closeNots_B2 at K
  have h7 : a.1 55 7 = cn (W.length + 1) := hw.2.1
  have h8 : a.1 55 8 = cn (opn W + 1) := by rw [hw.2.2, eo]
  rw [if_neg (fun q => by have q := (cle (x := c8 8) (a := 8) (y := cn z) (by decide) rfl (by omega) (by omega)).mp q; omega), V_last (W := c16 274 :: W) hw.1 hw.2.1 (by simp; omega), b1_some] at K
  rw [show topW (c16 274 :: W) = c16 274 from rfl, if_pos rfl, V_push h58 h3 hn, b1_some, bw_l, cnu (by omega)] at K
  dsimp only at K
  have e7 : mu (mu a.1 58 3 (cn (nc + 1))) 59 nc (ci 90000) 55 7 - ci 1 = cn W.length := by
    rw [mu_row (by omega), mu_row (by omega), h7]
    exact (cn_sub (a := W.length + 1) (b := 1) (by omega) (by omega)).trans (by rw [Nat.add_sub_cancel])
  rw [e7] at K
  have e8 : mu (mu (mu a.1 58 3 (cn (nc + 1))) 59 nc (ci 90000)) 55 7 (cn W.length) 55 8 - ci 1 = cn (opn W) := by
    rw [mu_cell (by omega), mu_row (by omega), mu_row (by omega), h8]
    exact (cn_sub (a := opn W + 1) (b := 1) (by omega) (by omega)).trans (by rw [Nat.add_sub_cancel])
  rw [e8] at K
  generalize hD : mu (mu (mu (mu a.1 58 3 (cn (nc + 1))) 59 nc (ci 90000)) 55 7 (cn W.length)) 55 8 (cn (opn W)) = D at K
  have dr : ∀ j, j ≠ 55 → j ≠ 58 → j ≠ 59 → D j = a.1 j := fun j q1 q2 q3 => by rw [← hD, mu_row q1, mu_row q1, mu_row q3, mu_row q2]
  have d55 : ∀ c, c ≠ 7 → c ≠ 8 → D 55 c = a.1 55 c := fun c q1 q2 => by rw [← hD, mu_cell (Or.inr q2), mu_cell (Or.inr q1), mu_row (by omega), mu_row (by omega)]
  have d58 : D 58 = mu a.1 58 3 (cn (nc + 1)) 58 := by rw [← hD, mu_row (by omega), mu_row (by omega), mu_row (by omega)]
  have d59 : D 59 = mu a.1 59 nc (ci 90000) 59 := by
    rw [← hD, mu_row (by omega), mu_row (by omega)]
    exact mu_row2 (mu_row (by omega))
  refine ⟨(D, a.2), ⟨?_, ?_, ?_⟩, d58, d59, ⟨fun j q1 q2 q3 _ => dr j q1 q2 q3, d55, fun c hc => (congrFun d58 c).trans (mu_cell (Or.inr hc))⟩, x, y, z + 1, hx, hy, by omega, K⟩
  · rw [show ((D, a.2) : mG).1 67 = a.1 67 from dr 67 (by omega) (by omega) (by omega)]; exact hw.1.2
  · show D 55 7 = _
    rw [← hD, mu_cell (by omega), mu_same]
  · show D 55 8 = _
    rw [← hD, mu_same]
theorem O_exit {o : Nat} (hw : WS W a) (hl : W.length ≤ 64) (ht : ¬ topW W = c16 274) (K : KOC i o a r) : KD i a r := by
  obtain ⟨x, y, z, hx, hy, hz, K⟩ := K
  rw [CN_bw] at K
  unfold F_X7_closeNots_B2 at K
  have e : bw (if c8 8 ≤ cn z then some (Sum.inr a) else b1 (F_X7_lastWaiting a) fun v3 => if v3 = c16 274 then b1 (F_X10_push 58 (ci 90000) a) fun s6 => let s7 : mG := (mu s6.1 55 7 ((s6.1 55 7) - (ci 1)), s6.2); let s8 : mG := (mu s7.1 55 8 ((s7.1 55 8) - (ci 1)), s7.2); some (Sum.inl ((cn z + ci 1), s8)) else some (Sum.inr a)) (fun v => F_X7_closeNots_L2 v.1 v.2) = some a := by
    by_cases q : c8 8 ≤ cn z
    · rw [if_pos q]; rfl
    · rw [if_neg q, V_last hw.1 hw.2.1 hl, b1_some, if_neg ht]; rfl
  rw [e, b1_some] at K
  exact ⟨x, y, hx, hy, K⟩
theorem D_exit (hm : i ≤ 400) (hk : ¬ a.1 55 14 = c8 41 ∨ a.1 55 8 = cn 0) (K : KD i a r) : ∃ x, x < i ∧ bw (cend (cn x) a) LC = some r := by
  obtain ⟨x, y, hx, hy, K⟩ := K
  rw [RL_bw] at K
  unfold F_X7_readClosings_B6 at K
  rw [if_neg (n400 (by omega))] at K
  by_cases q : a.1 55 14 = c8 41
  · rw [if_pos q, if_pos (by rw [hk.resolve_left (fun n => n q)]; decide), bw_r, b1_some] at K
    exact ⟨x, hx, K⟩
  · rw [if_neg q, bw_r, b1_some] at K
    exact ⟨x, hx, K⟩
theorem D_close {nc : Nat} {b : mG} {ps : List Int32} (hC : CP T len m B i a) (hi : i < m) (hm : m ≤ 400) (hw : WS (ps ++ c8 40 :: W) a) (hl : (ps ++ c8 40 :: W).length ≤ 60) (hps : ∀ s, s ∈ ps → s = c16 273 ∨ s = c16 272) (hn : nc + ps.length ≤ 400) (ho : opn (ps ++ c8 40 :: W) ≤ 8) (hcd : CodeR nc (ps.map sc) a b) (hk : a.1 55 14 = c8 41) (K : KD i a r) : ∃ u, CP T len m B (i + 1) u ∧ WS W u ∧ CodeR (nc + ps.length) [] u b ∧ KOC (i + 1) (opn W) u r := by
  have eo : ∀ ps : List Int32, (∀ s, s ∈ ps → s = c16 273 ∨ s = c16 272) → opn (ps ++ c8 40 :: W) = opn W + 1 := by
    intro ps
    induction ps with
    | nil =>
      intro _
      show (if c8 40 = c8 40 ∨ c8 40 = c16 274 then 1 else 0) + opn W = _
      rw [if_pos (Or.inl rfl), Nat.add_comm]
    | cons x ps ih =>
      intro h
      show (if x = c8 40 ∨ x = c16 274 then 1 else 0) + opn (ps ++ c8 40 :: W) = _
      rw [ih (fun s hs => h s (List.mem_cons_of_mem _ hs))]
      rcases h x (by simp) with e | e
      · subst e; rw [if_neg (by decide)]; omega
      · subst e; rw [if_neg (by decide)]; omega
  have eo := eo ps hps
  obtain ⟨x, y, hx, hy, K⟩ := K
  rw [RL_bw] at K
  unfold F_X7_readClosings_B6 F_X7_joinWhatWaits at K
  have h8 : a.1 55 8 = cn (opn W + 1) := by rw [hw.2.2, eo]
  rw [if_neg (n400 (by omega)), if_pos hk, if_neg (by
    rw [h8]
    exact fun q => absurd ((cle (x := cn (opn W + 1)) (y := 0) (b := 0) rfl (by decide) (by omega) (by omega)).mp q) (by omega)), bw_b1, b1_b1] at K
  obtain ⟨s7, e7, K⟩ := m_b1 K
  have hcd2 : CodeR nc (ps.map sc ++ []) a b := by rw [List.append_nil]; exact hcd
  have hpl : ps.length ≤ 60 := by simp at hl; omega
  obtain ⟨g1, g2, g3, g4, g5⟩ := V_join (W0 := c8 40 :: W) (rest := []) (x1 := ci 0) (Or.inl rfl) ⟨by show c8 40 ≠ c16 273; decide, fun e => absurd e (by show ¬ c8 40 = c16 272; decide)⟩ ps 0 nc a (fun s hs => (hps s hs).elim Or.inl (fun e => Or.inr ⟨e, rfl⟩)) (by omega) hn (by omega) hw.1 hw.2.1 hcd2 s7 e7
  dsimp only at K
  rw [bw_b1, b1_b1] at K
  obtain ⟨s11, e11, K⟩ := m_b1 K
  have cw : CW a (mu (mu s7.1 55 7 ((s7.1 55 7) - (ci 1))) 55 8 ((mu s7.1 55 7 ((s7.1 55 7) - (ci 1)) 55 8) - (ci 1)), s7.2) := CW_tr g5 ⟨fun j h1 _ _ _ => (mu_rowQ h1).trans (mu_row h1), fun c h1 h2 => (mu_cellQ (Or.inr h2)).trans (mu_cell (Or.inr h1)), fun c _ => (congrFun (mu_rowQ (by omega)) c).trans (congrFun (mu_row (by omega)) c)⟩
  obtain ⟨z1, z2⟩ := V_stepOn (CP_CW hC cw) hi s11 e11
  have e7' : s7.1 55 7 - ci 1 = cn W.length := by
    rw [g2, show (c8 40 :: W).length = W.length + 1 from rfl]
    exact (cn_sub (a := W.length + 1) (b := 1) (by simp at hl; omega) (by simp at hl; omega)).trans (by rw [Nat.add_sub_cancel])
  refine ⟨s11, z1, ⟨?_, ?_, ?_⟩, ?_, x, y + 1, 0, by omega, by omega, by omega, ?_⟩
  · rw [z2.2.1 67 (by omega), show ((mu (mu s7.1 55 7 ((s7.1 55 7) - (ci 1))) 55 8 ((mu s7.1 55 7 ((s7.1 55 7) - (ci 1)) 55 8) - (ci 1)), s7.2) : mG).1 67 = s7.1 67 from (mu_rowQ (by omega)).trans (mu_row (by omega))]
    exact g1.2
  · rw [z2.2.2 7 (by omega) (by omega) (by omega) (by omega)]
    exact (mu_cellQ (by omega)).trans (mu_same.trans e7')
  · rw [z2.2.2 8 (by omega) (by omega) (by omega) (by omega)]
    refine mu_sameQ.trans ?_
    rw [mu_cell (by omega), g3, h8]
    exact (cn_sub (a := opn W + 1) (b := 1) (by omega) (by omega)).trans (by rw [Nat.add_sub_cancel])
  · have e58 : s11.1 58 = s7.1 58 := (z2.2.1 58 (by omega)).trans ((mu_rowQ (by omega)).trans (mu_row (by omega)))
    have e59 : s11.1 59 = s7.1 59 := (z2.2.1 59 (by omega)).trans ((mu_rowQ (by omega)).trans (mu_row (by omega)))
    unfold CodeR C58
    rw [e58, e59]
    exact g4
  · unfold F_X7_closeNots at K
    rw [bw_b1, b1_b1, cnu (by omega)] at K
    exact K
/-- and, or: one more operand -/
theorem E_more {nc x : Nat} {b : mG} {ps : List Int32} {rest : List Nat} {x1 : Int32} (hC : CP T len m B i a) (hi : i < m) (hm : m ≤ 400) (hx : x < i) (hw : WS (ps ++ W) a) (hl : (ps ++ W).length ≤ 60) (hlW : W.length < 60) (hx1 : (a.1 55 14 = c16 273 ∧ x1 = ci 1) ∨ (a.1 55 14 = c16 272 ∧ x1 = ci 0)) (hps : ∀ s, s ∈ ps → s = c16 273 ∨ (s = c16 272 ∧ x1 = ci 0)) (hW : topW W ≠ c16 273 ∧ (topW W = c16 272 → x1 = ci 1)) (hn : nc + ps.length ≤ 400) (hcd : CodeR nc (ps.map sc ++ rest) a b) (K : bw (cend (cn x) a) LC = some r) : ∃ u, CP T len m B (i + 1) u ∧ WC (a.1 55 14 :: W) (u.1 67) ∧ u.1 55 7 = cn (a.1 55 14 :: W).length ∧ u.1 55 8 = a.1 55 8 ∧ CodeR (nc + ps.length) rest u b ∧ KAO (i + 1) u r := by
  have K2 : bw (F_X7_readCondition_96 (cn x) x1 a) LC = some r := by
    unfold cend at K
    rcases hx1 with ⟨q1, q2⟩ | ⟨q1, q2⟩
    · rw [if_pos q1] at K; rw [q2]; exact K
    · rw [if_neg (by rw [q1]; decide)] at K; rw [q2]; exact K
  clear K
  unfold F_X7_readCondition_96 F_X7_joinWhatWaits F_X7_readCondition_140 at K2
  rw [bw_b1] at K2
  obtain ⟨s31, e31, K2⟩ := m_b1 K2
  have hpl : ps.length ≤ 60 := by simp at hl; omega
  obtain ⟨g1, g2, g3, g4, g5⟩ := V_join (W0 := W) (rest := rest) (x1 := x1) (hx1.elim (fun q => Or.inr q.2) (fun q => Or.inl q.2)) hW ps 0 nc a hps (by omega) hn (by omega) hw.1 hw.2.1 hcd s31 e31
  have ek : s31.1 55 14 = a.1 55 14 := g5.2.1 14 (by omega) (by omega)
  have K3 : b1 (F_X7_hold (a.1 55 14) s31) (fun s34 => b1 (F_X7_stepOn s34) fun s36 => F_X7_readCondition_L12 (cn x + ci 1) s36) = some r := by
    rcases hx1 with ⟨q1, q2⟩ | ⟨q1, q2⟩
    · rw [ek, if_pos q1, bw_b1] at K2
      rw [← K2]
      congr 1
      funext s34
      rw [bw_b1]
      rfl
    · rw [ek, if_neg (by rw [q1]; decide), if_pos q1, bw_b1] at K2
      rw [← K2]
      congr 1
      funext s34
      rw [bw_b1]
      rfl
  obtain ⟨s34, e34, K3⟩ := m_b1 K3
  obtain ⟨f1, f2, f3, f4, f5, f6⟩ := V_hold (x := a.1 55 14) g1 g2 (by omega) s34 e34
  obtain ⟨s36, e36, K3⟩ := m_b1 K3
  obtain ⟨z1, z2⟩ := V_stepOn (CP_CW hC (CW_tr g5 f6)) hi s36 e36
  refine ⟨s36, z1, ?_, ?_, ?_, ?_, x + 1, 0, by omega, by omega, ?_⟩
  · rw [z2.2.1 67 (by omega)]; exact f1
  · rw [z2.2.2 7 (by omega) (by omega) (by omega) (by omega)]; exact f2
  · rw [z2.2.2 8 (by omega) (by omega) (by omega) (by omega), f3, g3]
  · unfold CodeR C58
    rw [z2.2.1 58 (by omega), z2.2.1 59 (by omega), f4, f5]
    exact g4
  · rw [cnu (by omega), RC_bw] at K3
    unfold F_X7_readCondition_B12 F_X7_readOpenings at K3
    rw [if_neg (n400 (by omega)), bw_b2] at K3
    exact K3
/-- no more -/
theorem E_done {nc x : Nat} {b : mG} {ps : List Int32} (hC : CP T len m B i a) (hw : WS (ps ++ W) a) (hl : (ps ++ W).length ≤ 60) (n1 : ¬ a.1 55 14 = c16 273) (n2 : ¬ a.1 55 14 = c16 272) (hps : ∀ s, s ∈ ps → s = c16 273 ∨ s = c16 272) (hW : topW W ≠ c16 273 ∧ topW W ≠ c16 272) (hn : nc + ps.length ≤ 400) (hcd : CodeR nc (ps.map sc) a b) (K : bw (cend (cn x) a) LC = some r) : (a.1 55 8 = cn 0 ∧ r.1 = ci 1 ∧ CP T len m B i r.2 ∧ CodeR (nc + ps.length) [] r.2 b) ∨ (¬ a.1 55 8 = cn 0 ∧ r.1 = ci 0 ∧ r.2.1 55 10 = ci 1 ∧ r.2.1 55 11 = a.1 55 16) := by
  unfold cend at K
  rw [if_neg n1] at K
  unfold F_X7_readCondition_96 F_X7_joinWhatWaits F_X7_readCondition_134 at K
  rw [bw_b1] at K
  obtain ⟨s31, e31, K⟩ := m_b1 K
  have hcd2 : CodeR nc (ps.map sc ++ []) a b := by rw [List.append_nil]; exact hcd
  have hpl : ps.length ≤ 60 := by simp at hl; omega
  obtain ⟨g1, g2, g3, g4, g5⟩ := V_join (W0 := W) (rest := []) (x1 := ci 0) (Or.inl rfl) ⟨hW.1, fun e => absurd e hW.2⟩ ps 0 nc a (fun s hs => (hps s hs).elim Or.inl (fun e => Or.inr ⟨e, rfl⟩)) (by omega) hn (by omega) hw.1 hw.2.1 hcd2 s31 e31
  have ek : s31.1 55 14 = a.1 55 14 := g5.2.1 14 (by omega) (by omega)
  rw [ek, if_neg n1, if_neg n2, g3] at K
  by_cases q : a.1 55 8 = 0
  · rw [if_pos q, bw_b1r] at K
    have K := Option.some.inj K
    subst K
    exact Or.inl ⟨q.trans (by decide), rfl, CP_CW hC g5, g4⟩
  · rw [if_neg q, V_refuse, b2_some, if_pos c0e0, bw_r] at K
    have K := Option.some.inj K
    subst K
    refine Or.inr ⟨fun e => q (e.trans (by decide)), rfl, (mu_cellQ (by omega)).trans mu_same, mu_sameQ.trans (g5.2.1 16 (by omega) (by omega))⟩
end CLASS
end
end
/-! 5j.both -/
section
noncomputable section
/-! A CONDITION, read by both -/
theorem CodeR_add2 {nc : Nat} {a b u w : mG} {x k v : Int32} (h : CodeR nc [] a b) (he : EN x k v) (h58 : u.1 58 = mu a.1 58 3 (cn (nc + 1)) 58) (h59 : u.1 59 = mu a.1 59 nc x 59) (h93 : w.1 93 = mu (mu b.1 93 (2 * nc) k) 93 (2 * nc + 1) v 93) (h13 : w.1 88 13 = cn (nc + 1)) : CodeR (nc + 1) [] u w := by
  obtain ⟨⟨h0, h1⟩, h3, _, hE, _⟩ := h
  refine ⟨⟨?_, ?_⟩, ?_, ?_, fun j hj => ?_, fun j hj => absurd hj (by simp)⟩
  · rw [h58, mu_cell (by omega)]; exact h0
  · rw [h58, mu_cell (by omega)]; exact h1
  · rw [h58, mu_same]
  · rw [h13]; rfl
  · rw [h59, h93]
    by_cases hjn : j = nc
    · subst hjn
      rw [mu_same, mu_cell (by omega), mu_same, mu_same]; exact he
    · rw [mu_cell (by omega), mu_cell (by omega), mu_cell (by omega), mu_cell (by omega), mu_cell (by omega)]
      exact hE j (by omega)
/-- the reference lays ahead of the class -/
theorem CodeR_lag {nc k : Nat} {pend : List Nat} {a b w : mG} {v : Int32} (h : CodeR nc pend a b) (h93 : w.1 93 = mu (mu b.1 93 (2 * (nc + pend.length)) (cn k)) 93 (2 * (nc + pend.length) + 1) v 93) (h13 : w.1 88 13 = cn (nc + pend.length + 1)) : CodeR nc (pend ++ [k]) a w := by
  obtain ⟨h0, h3, _, hE, hP⟩ := h
  refine ⟨h0, h3, ?_, fun j hj => ?_, fun j hj => ?_⟩
  · rw [h13]; congr 1; simp; omega
  · rw [h93, mu_cell (by omega), mu_cell (by omega), mu_cell (by omega), mu_cell (by omega)]
    exact hE j hj
  · rw [h93]
    have hj2 : j < pend.length + 1 := by simp at hj; omega
    by_cases hjp : j = pend.length
    · subst hjp
      rw [mu_cell (by omega), mu_same]
      congr 1
      rw [List.getD_eq_getElem?_getD, List.getElem?_append_right (Nat.le_refl _), Nat.sub_self]
      rfl
    · rw [mu_cell (by omega), mu_cell (by omega), hP j (by omega)]
      congr 1
      rw [List.getD_eq_getElem?_getD, List.getD_eq_getElem?_getD, List.getElem?_append_left (by omega)]
theorem opn_ps : ∀ (ps W : List Int32), (∀ s, s ∈ ps → s = c16 273 ∨ s = c16 272) → opn (ps ++ W) = opn W := by
  intro ps W
  induction ps with
  | nil => intro _; rfl
  | cons x ps ih =>
    intro h
    show (if x = c8 40 ∨ x = c16 274 then 1 else 0) + opn (ps ++ W) = _
    rw [ih (fun s hs => h s (List.mem_cons_of_mem _ hs))]
    rcases h x (by simp) with e | e
    · subst e; rw [if_neg (by decide)]; omega
    · subst e; rw [if_neg (by decide)]; omega
section BOTH
variable {T : Nat → Int32} {len m : Nat} {B : Nat → Nat}
/-- what a piece of a condition comes to; P: how it stands behind it -/
def CQ (i : Nat) (b : mG) (r : Int32 × mG) (v : Int32) (b' : mG) (P : Nat → Nat → mG → Prop) : Prop := RH b b' ∧ (v = 0 → r.1 = ci 0 ∧ FE r.2 b') ∧ (¬ v = 0 → ∃ i' nc' a', i < i' ∧ P i' nc' a')
def OTP (T : Nat → Int32) (len m : Nat) (B : Nat → Nat) (rec : mG → Option (Int32 × mG)) : Prop := ∀ i nc W a b r v b', SC T len m B i nc [] W a b → W.length ≤ 3 * opn W + 2 → 0 < i → KAO i a r → rec b = some (v, b') → CQ i b r v b' (fun i' nc' a' => SC T len m B i' nc' [] W a' b' ∧ KOC i' (opn W) a' r)
theorem EL_bw {rec : mG → Option (Int32 × mG)} {b : mG} : F_X12_every_L9 rec b = bw (F_X12_every_B9 rec b) (F_X12_every_L9 rec) := whl_bw _ _
theorem AL_bw {rec : mG → Option (Int32 × mG)} {b : mG} : F_X12_any_L9 rec b = bw (F_X12_any_B9 rec b) (F_X12_any_L9 rec) := whl_bw _ _
def topO (W : List Int32) : Prop := topW W ≠ c16 273 ∧ topW W ≠ c16 272 ∧ topW W ≠ c16 274
theorem lay_facts {b w : mG} {n : Nat} {k v : Int32} (h : w = (mu (mu (mu b.1 93 (2 * n) k) 93 (2 * n + 1) v) 88 13 (cn (n + 1)), b.2)) : w.1 93 = mu (mu b.1 93 (2 * n) k) 93 (2 * n + 1) v 93 ∧ w.1 88 13 = cn (n + 1) ∧ RG b w := by
  subst h
  exact ⟨mu_rowQ (by omega), mu_sameQ, RG_lay⟩
theorem RP_RG13 {i n : Nat} {b w : mG} {k v : Int32} (h : RP T len 0 m B i b) (e : w = (mu (mu (mu b.1 93 (2 * n) k) 93 (2 * n + 1) v) 88 13 (cn (n + 1)), b.2)) : RP T len 0 m B i w := by
  subst e
  exact RP_lay h
/-- and .. and .. -/
theorem S_everyL {rec : mG → Option (Int32 × mG)} (hS : ST T len 0 m B) (hrec : OTP T len m B rec) {ps0 W : List Int32} {r : Int32 × mG} (hp0 : ps0 = [] ∨ ps0 = [c16 272]) (hW : topO W) (hWl : W.length ≤ 3 * opn W) : ∀ (n i nc : Nat) (ps : List Int32) (a b : mG) (v : Int32) (b' : mG), m - i ≤ n → 0 < i → (ps = [] ∨ ps = [c16 273]) → SC T len m B i nc (ps.map sc) (ps ++ (ps0 ++ W)) a b → KD i a r → F_X12_every_L9 rec b = some (v, b') → CQ (i - 1) b r v b' (fun i' nc' a' => ∃ ps, (ps = [] ∨ ps = [c16 273]) ∧ SC T len m B i' nc' (ps.map sc) (ps ++ (ps0 ++ W)) a' b' ∧ KD i' a' r ∧ ¬ a'.1 55 14 = c16 273) := by
  have hps0 : ∀ s, s ∈ ps0 → s = c16 273 ∨ s = c16 272 := fun s hs => by
    rcases hp0 with e | e <;> subst e
    · cases hs
    · simp at hs; exact Or.inr hs
  have hl0 : ps0.length ≤ 1 := by rcases hp0 with e | e <;> subst e <;> simp
  have hpsf : ∀ ps : List Int32, (ps = [] ∨ ps = [c16 273]) → (∀ s, s ∈ ps → s = c16 273) ∧ ps.length ≤ 1 := fun ps h => by
    rcases h with e | e <;> subst e
    · exact ⟨fun s hs => (by cases hs), by simp⟩
    · exact ⟨fun s hs => by simpa using hs, by simp⟩
  intro n
  induction n with
  | zero =>
    intro i nc ps a b v b' hn h0 hps h hK hb
    obtain ⟨h1, h2, h3, h4, h5, h6, h7⟩ := h
    have him := h1.2.1
    have hk := (PR_facts hS h1 h2).2.2.2.mpr (by omega)
    have hKP := (PR_facts hS h1 h2).1
    have n1 : ¬ a.1 55 14 = c16 273 := by rw [hk]; decide
    rw [EL_bw] at hb
    unfold F_X12_every_B9 at hb
    rw [if_neg (fun q => n1 ((K_and hKP).mp q)), bw_r] at hb
    cases hb
    exact ⟨RH_RG RG_rfl, fun e => absurd e c1n0, fun _ => ⟨i, nc, a, by omega, ps, hps, ⟨h1, h2, h3, h4, h5, h6, h7⟩, hK, n1⟩⟩
  | succ n ih =>
    intro i nc ps a b v b' hn h0 hps h hK hb
    obtain ⟨h1, h2, h3, h4, h5, h6, h7⟩ := h
    have him := h1.2.1
    have m4 := hS.2.2.1
    have hKP := (PR_facts hS h1 h2).1
    obtain ⟨hpa, hpl⟩ := hpsf ps hps
    rw [EL_bw] at hb
    unfold F_X12_every_B9 at hb
    by_cases n1 : a.1 55 14 = c16 273
    · have hi : i < m := S_lt hS h1 h2 (by rw [n1]; decide)
      rw [if_pos ((K_and hKP).mpr n1), bw_b1] at hb
      obtain ⟨s7, e7, hb⟩ := m_b1 hb
      obtain ⟨g1, g2⟩ := V_next hS h1.1 h2 hi s7 e7
      rw [bw_b2] at hb
      obtain ⟨v10, s9, e9, hb⟩ := m_b2 hb
      have eo : opn (ps ++ (ps0 ++ W)) = opn W := by
        rw [opn_ps ps _ (fun s hs => Or.inl (hpa s hs)), opn_ps ps0 W hps0]
      have hlen : (ps ++ (ps0 ++ W)).length = ps.length + ps0.length + W.length := by simp; omega
      rw [eo] at h5 h6
      rw [hlen] at h7
      -- the class
      obtain ⟨x, hx, K1⟩ := D_exit (by omega) (Or.inl (by rw [n1]; decide)) hK
      have htop : topW (ps0 ++ W) ≠ c16 273 ∧ (topW (ps0 ++ W) = c16 272 → ci 1 = ci 1) := by
        refine ⟨?_, fun _ => rfl⟩
        rcases hp0 with e | e <;> subst e
        · exact hW.1
        · show c16 272 ≠ c16 273; decide
      obtain ⟨u, u1, u2, u3, u4, u5, u6⟩ := E_more (nc := nc) (b := b) (W := ps0 ++ W) (ps := ps) (rest := []) (x1 := ci 1) h1 hi m4 hx h4 (by rw [hlen]; omega) (by simp; omega) (Or.inl ⟨n1, rfl⟩) (fun s hs => Or.inl (hpa s hs)) htop (by omega) (by rw [List.append_nil]; exact h3) K1
      rw [n1] at u2 u3
      have eo2 : opn (c16 273 :: (ps0 ++ W)) = opn W := by
        have := opn_ps ([c16 273] ++ ps0) W (fun s hs => by
          rcases List.mem_append.mp hs with q | q
          · simp at q; exact Or.inl q
          · exact hps0 s q)
        exact this
      have hlen2 : (c16 273 :: (ps0 ++ W)).length = 1 + ps0.length + W.length := by simp; omega
      have hSC : SC T len m B (i + 1) (nc + ps.length) [] (c16 273 :: (ps0 ++ W)) u s7 := by
        refine ⟨u1, g1, CodeR_step u5 CFr_rfl g2, ⟨u2, u3, ?_⟩, ?_, by rw [eo2]; exact h6, by rw [hlen2]; omega⟩
        · rw [u4, h4.2.2, eo, eo2]
        · rw [g2.2.2 23 (by omega) (by omega) (by omega) (by omega), eo2]; exact h5
      have hq := hrec (i + 1) (nc + ps.length) _ u s7 r v10 s9 hSC (by rw [hlen2, eo2]; omega) (by omega) u6 e9
      by_cases hv : v10 = 0
      · rw [if_pos hv, bw_r] at hb
        cases hb
        exact ⟨RH_tr (RH_RG (RG_next g2)) hq.1, fun _ => hq.2.1 hv, fun e => absurd c0e0 e⟩
      · rw [if_neg hv, bw_b1] at hb
        obtain ⟨s13, e13, hb⟩ := m_b1 hb
        obtain ⟨i', nc', a', z1, z2, z3⟩ := hq.2.2 hv
        obtain ⟨y1, y2, y3, y4, y5, y6, y7⟩ := z2
        have him' := y1.2.1
        have e13' := V_lay (n := nc') y3.2.2.1 (by rw [hlen2] at y7; omega) s13 e13
        obtain ⟨l1, l2, l3⟩ := lay_facts e13'
        have hKD := O_exit (W := c16 273 :: (ps0 ++ W)) y4 (by rw [hlen2]; omega) (by show ¬ c16 273 = c16 274; decide) z3
        have hcd : CodeR nc' (([c16 273] : List Int32).map sc) a' s13 := by
          have hc := CodeR_lag (k := 31) (v := ci 0) y3 (by
            show s13.1 93 = mu (mu s9.1 93 (2 * (nc' + 0)) (cn 31)) 93 (2 * (nc' + 0) + 1) (ci 0) 93
            rw [Nat.add_zero]
            exact l1) (by show s13.1 88 13 = cn (nc' + 0 + 1); exact l2)
          exact hc
        have hr := ih i' nc' [c16 273] a' s13 v b' (by omega) (by omega) (Or.inr rfl) ⟨y1, RP_RG13 y2 e13', hcd, y4, by rw [l3.2.2 23 (by omega) (by omega) (by omega) (by omega) (by omega) (by omega) (by omega)]; exact y5, y6, y7⟩ hKD hb
        refine ⟨RH_tr (RH_RG (RG_next g2)) (RH_tr hq.1 (RH_tr (RH_RG l3) hr.1)), hr.2.1, fun e => ?_⟩
        obtain ⟨i2, nc2, a2, q1, q2⟩ := hr.2.2 e
        exact ⟨i2, nc2, a2, by omega, q2⟩
    · rw [if_neg (fun q => n1 ((K_and hKP).mp q)), bw_r] at hb
      cases hb
      exact ⟨RH_RG RG_rfl, fun e => absurd e c1n0, fun _ => ⟨i, nc, a, by omega, ps, hps, ⟨h1, h2, h3, h4, h5, h6, h7⟩, hK, n1⟩⟩
theorem S_every {rec : mG → Option (Int32 × mG)} (hS : ST T len 0 m B) (hrec : OTP T len m B rec) {ps0 W : List Int32} {r : Int32 × mG} (hp0 : ps0 = [] ∨ ps0 = [c16 272]) (hW : topO W) (hWl : W.length ≤ 3 * opn W) {i nc : Nat} {a b : mG} {v : Int32} {b' : mG} (h0 : 0 < i) (h : SC T len m B i nc [] (ps0 ++ W) a b) (K : KAO i a r) (hb : F_X12_every rec b = some (v, b')) : CQ i b r v b' (fun i' nc' a' => ∃ ps, (ps = [] ∨ ps = [c16 273]) ∧ SC T len m B i' nc' (ps.map sc) (ps ++ (ps0 ++ W)) a' b' ∧ KD i' a' r ∧ ¬ a'.1 55 14 = c16 273) := by
  have hps0 : ∀ s, s ∈ ps0 → s = c16 273 ∨ s = c16 272 := fun s hs => by
    rcases hp0 with e | e <;> subst e
    · cases hs
    · simp at hs; exact Or.inr hs
  have hl0 : ps0.length ≤ 1 := by rcases hp0 with e | e <;> subst e <;> simp
  have eo := opn_ps ps0 W hps0
  have hlen : (ps0 ++ W).length = ps0.length + W.length := by simp
  unfold F_X12_every at hb
  obtain ⟨v3, s2, e2, hb⟩ := m_b2 hb
  have hq := hrec i nc _ a b r v3 s2 h (by rw [hlen, eo]; omega) h0 K e2
  by_cases hv : v3 = 0
  · rw [if_pos hv] at hb
    cases hb
    exact ⟨hq.1, fun _ => hq.2.1 hv, fun e => absurd c0e0 e⟩
  · rw [if_neg hv] at hb
    obtain ⟨i', nc', a', z1, z2, z3⟩ := hq.2.2 hv
    have htop : ¬ topW (ps0 ++ W) = c16 274 := by
      rcases hp0 with e | e <;> subst e
      · exact hW.2.2
      · show ¬ c16 272 = c16 274; decide
    have hop : opn W ≤ 8 := by have := z2.2.2.2.2.2.1; rw [eo] at this; exact this
    have hKD := O_exit (W := ps0 ++ W) z2.2.2.2.1 (by rw [hlen]; omega) htop z3
    have hr := S_everyL hS hrec hp0 hW hWl (m - i') i' nc' [] a' s2 v b' (Nat.le_refl _) (by omega) (Or.inl rfl) z2 hKD hb
    refine ⟨RH_tr hq.1 hr.1, hr.2.1, fun e => ?_⟩
    obtain ⟨i2, nc2, a2, q1, q2⟩ := hr.2.2 e
    exact ⟨i2, nc2, a2, by omega, q2⟩
/-- or .. or .. -/
theorem S_anyL {rec : mG → Option (Int32 × mG)} (hS : ST T len 0 m B) (hrec : OTP T len m B rec) {W : List Int32} {r : Int32 × mG} (hW : topO W) (hWl : W.length ≤ 3 * opn W) : ∀ (n i nc : Nat) (ps : List Int32) (a b : mG) (v : Int32) (b' : mG), m - i ≤ n → 0 < i → (∀ s, s ∈ ps → s = c16 273 ∨ s = c16 272) → ps.length ≤ 2 → SC T len m B i nc (ps.map sc) (ps ++ W) a b → KD i a r → ¬ a.1 55 14 = c16 273 → F_X12_any_L9 rec b = some (v, b') → CQ (i - 1) b r v b' (fun i' nc' a' => ∃ ps : List Int32, (∀ s, s ∈ ps → s = c16 273 ∨ s = c16 272) ∧ ps.length ≤ 2 ∧ SC T len m B i' nc' (ps.map sc) (ps ++ W) a' b' ∧ KD i' a' r ∧ ¬ a'.1 55 14 = c16 273 ∧ ¬ a'.1 55 14 = c16 272) := by
  intro n
  induction n with
  | zero =>
    intro i nc ps a b v b' hn h0 hps hpl h hK hna hb
    obtain ⟨h1, h2, h3, h4, h5, h6, h7⟩ := h
    have him := h1.2.1
    have hk := (PR_facts hS h1 h2).2.2.2.mpr (by omega)
    have hKP := (PR_facts hS h1 h2).1
    have n1 : ¬ a.1 55 14 = c16 272 := by rw [hk]; decide
    rw [AL_bw] at hb
    unfold F_X12_any_B9 at hb
    rw [if_neg (fun q => n1 ((K_or hKP).mp q)), bw_r] at hb
    cases hb
    exact ⟨RH_RG RG_rfl, fun e => absurd e c1n0, fun _ => ⟨i, nc, a, by omega, ps, hps, hpl, ⟨h1, h2, h3, h4, h5, h6, h7⟩, hK, hna, n1⟩⟩
  | succ n ih =>
    intro i nc ps a b v b' hn h0 hps hpl h hK hna hb
    obtain ⟨h1, h2, h3, h4, h5, h6, h7⟩ := h
    have him := h1.2.1
    have m4 := hS.2.2.1
    have hKP := (PR_facts hS h1 h2).1
    rw [AL_bw] at hb
    unfold F_X12_any_B9 at hb
    by_cases n1 : a.1 55 14 = c16 272
    · have hi : i < m := S_lt hS h1 h2 (by rw [n1]; decide)
      rw [if_pos ((K_or hKP).mpr n1), bw_b1] at hb
      obtain ⟨s7, e7, hb⟩ := m_b1 hb
      obtain ⟨g1, g2⟩ := V_next hS h1.1 h2 hi s7 e7
      rw [bw_b2] at hb
      obtain ⟨v10, s9, e9, hb⟩ := m_b2 hb
      have eo : opn (ps ++ W) = opn W := opn_ps ps W hps
      have hlen : (ps ++ W).length = ps.length + W.length := by simp
      rw [eo] at h5 h6
      rw [hlen] at h7
      obtain ⟨x, hx, K1⟩ := D_exit (by omega) (Or.inl (by rw [n1]; decide)) hK
      obtain ⟨u, u1, u2, u3, u4, u5, u6⟩ := E_more (nc := nc) (b := b) (W := W) (ps := ps) (rest := []) (x1 := ci 0) h1 hi m4 hx h4 (by rw [hlen]; omega) (by omega) (Or.inr ⟨n1, rfl⟩) (fun s hs => (hps s hs).elim Or.inl (fun e => Or.inr ⟨e, rfl⟩)) ⟨hW.1, fun e => absurd e hW.2.1⟩ (by omega) (by rw [List.append_nil]; exact h3) K1
      rw [n1] at u2 u3
      have eo2 : opn ([c16 272] ++ W) = opn W := opn_ps [c16 272] W (fun s hs => by simp at hs; exact Or.inr hs)
      have hlen2 : ([c16 272] ++ W).length = 1 + W.length := by simp; omega
      have hSC : SC T len m B (i + 1) (nc + ps.length) [] ([c16 272] ++ W) u s7 := by
        refine ⟨u1, g1, CodeR_step u5 CFr_rfl g2, ⟨u2, u3, ?_⟩, ?_, by rw [eo2]; exact h6, by rw [hlen2]; omega⟩
        · rw [u4, h4.2.2, eo, eo2]
        · rw [g2.2.2 23 (by omega) (by omega) (by omega) (by omega), eo2]; exact h5
      have hq := S_every hS hrec (ps0 := [c16 272]) (Or.inr rfl) hW hWl (by omega) hSC u6 e9
      by_cases hv : v10 = 0
      · rw [if_pos hv, bw_r] at hb
        cases hb
        exact ⟨RH_tr (RH_RG (RG_next g2)) hq.1, fun _ => hq.2.1 hv, fun e => absurd c0e0 e⟩
      · rw [if_neg hv, bw_b1] at hb
        obtain ⟨s13, e13, hb⟩ := m_b1 hb
        obtain ⟨i', nc', a', z1, ps1, hp1, z2, z3, z4⟩ := hq.2.2 hv
        obtain ⟨y1, y2, y3, y4, y5, y6, y7⟩ := z2
        have him' := y1.2.1
        have hpa : (∀ s, s ∈ ps1 → s = c16 273) ∧ ps1.length ≤ 1 := by
          rcases hp1 with e | e <;> subst e
          · exact ⟨fun s hs => (by cases hs), by simp⟩
          · exact ⟨fun s hs => by simpa using hs, by simp⟩
        have hlen3 : (ps1 ++ ([c16 272] ++ W)).length = ps1.length + 1 + W.length := by simp; omega
        have e13' := V_lay (n := nc' + ps1.length) (by have := y3.2.2.1; rw [List.length_map] at this; exact this) (by rw [hlen3] at y7; omega) s13 e13
        obtain ⟨l1, l2, l3⟩ := lay_facts e13'
        have hcd : CodeR nc' ((ps1 ++ [c16 272]).map sc) a' s13 := by
          have hc := CodeR_lag (k := 32) (v := ci 0) y3 (by rw [List.length_map]; exact l1) (by rw [List.length_map]; exact l2)
          rw [List.map_append]
          exact hc
        have hassoc : ps1 ++ ([c16 272] ++ W) = (ps1 ++ [c16 272]) ++ W := (List.append_assoc _ _ _).symm
        rw [hassoc] at y4 y5 y6 y7
        have hr := ih i' nc' (ps1 ++ [c16 272]) a' s13 v b' (by omega) (by omega) (fun s hs => by
          rcases List.mem_append.mp hs with q | q
          · exact Or.inl (hpa.1 s q)
          · simp at q; exact Or.inr q) (by simp; exact hpa.2) ⟨y1, RP_RG13 y2 e13', hcd, y4, by rw [l3.2.2 23 (by omega) (by omega) (by omega) (by omega) (by omega) (by omega) (by omega)]; exact y5, y6, y7⟩ z3 z4 hb
        refine ⟨RH_tr (RH_RG (RG_next g2)) (RH_tr hq.1 (RH_tr (RH_RG l3) hr.1)), hr.2.1, fun e => ?_⟩
        obtain ⟨i2, nc2, a2, q1, q2⟩ := hr.2.2 e
        exact ⟨i2, nc2, a2, by omega, q2⟩
    · rw [if_neg (fun q => n1 ((K_or hKP).mp q)), bw_r] at hb
      cases hb
      exact ⟨RH_RG RG_rfl, fun e => absurd e c1n0, fun _ => ⟨i, nc, a, by omega, ps, hps, hpl, ⟨h1, h2, h3, h4, h5, h6, h7⟩, hK, hna, n1⟩⟩
theorem S_any {rec : mG → Option (Int32 × mG)} (hS : ST T len 0 m B) (hrec : OTP T len m B rec) {W : List Int32} {r : Int32 × mG} (hW : topO W) (hWl : W.length ≤ 3 * opn W) {i nc : Nat} {a b : mG} {v : Int32} {b' : mG} (h0 : 0 < i) (h : SC T len m B i nc [] W a b) (K : KAO i a r) (hb : F_X12_any rec b = some (v, b')) : CQ i b r v b' (fun i' nc' a' => ∃ ps : List Int32, (∀ s, s ∈ ps → s = c16 273 ∨ s = c16 272) ∧ ps.length ≤ 2 ∧ SC T len m B i' nc' (ps.map sc) (ps ++ W) a' b' ∧ KD i' a' r ∧ ¬ a'.1 55 14 = c16 273 ∧ ¬ a'.1 55 14 = c16 272) := by
  unfold F_X12_any at hb
  obtain ⟨v3, s2, e2, hb⟩ := m_b2 hb
  have hq := S_every hS hrec (ps0 := []) (Or.inl rfl) hW hWl h0 h K e2
  by_cases hv : v3 = 0
  · rw [if_pos hv] at hb
    cases hb
    exact ⟨hq.1, fun _ => hq.2.1 hv, fun e => absurd c0e0 e⟩
  · rw [if_neg hv] at hb
    obtain ⟨i', nc', a', z1, ps1, hp1, z2, z3, z4⟩ := hq.2.2 hv
    have hpa : (∀ s, s ∈ ps1 → s = c16 273 ∨ s = c16 272) ∧ ps1.length ≤ 2 := by
      rcases hp1 with e | e <;> subst e
      · exact ⟨fun s hs => (by cases hs), by simp⟩
      · exact ⟨fun s hs => by simp at hs; exact Or.inl hs, by simp⟩
    have hr := S_anyL hS hrec hW hWl (m - i') i' nc' ps1 a' s2 v b' (Nat.le_refl _) (by omega) hpa.1 hpa.2 z2 z3 z4 hb
    refine ⟨RH_tr hq.1 hr.1, hr.2.1, fun e => ?_⟩
    obtain ⟨i2, nc2, a2, q1, q2⟩ := hr.2.2 e
    exact ⟨i2, nc2, a2, by omega, q2⟩
end BOTH
end
end
