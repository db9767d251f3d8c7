noncomputable section
theorem K_X11_visit_20 {v0 : Int32} {s : mG} (h : KV 0 2 v0 s) : pk (F_X11_visit_20 s) (fun τ => KV 0 2 v0 τ.2) := by
  unfold F_X11_visit_20
  exact pk_some h
theorem K_X11_visit_45 {v0 : Int32} {y1 : Int32} {y2 : Int32} {y3 : Int32} {s : mG} (h : KV 0 2 v0 s) : pk (F_X11_visit_45 y1 y2 y3 s) (fun τ => KV 0 2 v0 τ.2) := by
  unfold F_X11_visit_45
  refine pk_b2 (K_X1_bestVisit h) (fun _ s_1 (h_2 : KV 0 2 v0 s_1) => ?_)
  exact pk_some h_2
theorem K_X11_visit {v0 : Int32} {a1 : Int32} {a2 : Int32} {s : mG} (h : KV 0 2 v0 s) : pk (F_X11_visit a1 a2 s) (fun τ => KV 0 2 v0 τ.2) := by
  unfold F_X11_visit
  refine pk_b1 pk_top (fun _ _ => ?_)
  refine pk_ite ?_ ?_
  · exact (K_X11_visit_20 h)
  · refine pk_b1 pk_top (fun _ _ => ?_)
    refine pk_ite ?_ ?_
    · exact (K_X11_visit_20 h)
    · refine pk_b2 (K_X0_sureOf h) (fun _ s_1 (h_2 : KV 0 2 v0 s_1) => ?_)
      refine pk_ite ?_ ?_
      · exact (K_X11_visit_45 h_2)
      · exact (K_X11_visit_45 h_2)
theorem K_X11_expect {v0 : Int32} {s : mG} (h : KV 0 2 v0 s) : pk (F_X11_expect s) (fun τ => KV 0 2 v0 τ.2) := by
  unfold F_X11_expect
  refine pk_b2 (K_X1_movesNow h) (fun _ s_1 (h_2 : KV 0 2 v0 s_1) => ?_)
  exact pk_some h_2
theorem K_X11_busy {v0 : Int32} {a1 : Int32} {s : mG} (h : KV 0 2 v0 s) : pk (F_X11_busy a1 s) (fun τ => KV 0 2 v0 τ.2) := by
  unfold F_X11_busy
  refine pk_ite ?_ ?_
  · refine pk_b2 (K_X1_busiestClock h) (fun _ s_1 (h_2 : KV 0 2 v0 s_1) => ?_)
    exact pk_some h_2
  · refine pk_ite ?_ ?_
    · refine pk_b2 (K_X1_busiestClock h) (fun _ s_3 (h_4 : KV 0 2 v0 s_3) => ?_)
      refine pk_b2 (K_X1_movesAt h_4) (fun _ s_5 (h_6 : KV 0 2 v0 s_5) => ?_)
      exact pk_some h_6
    · exact pk_some h
theorem K_X11_tagCost_32 {v0 : Int32} {s : mG} (h : KV 0 2 v0 s) : pk (F_X11_tagCost_32 s) (fun τ => KV 0 2 v0 τ.2) := by
  unfold F_X11_tagCost_32
  exact pk_some h
theorem K_X11_tagCost {v0 : Int32} {a1 : Int32} {a2 : Int32} {a3 : Int32} {s : mG} (h : KV 0 2 v0 s) : pk (F_X11_tagCost a1 a2 a3 s) (fun τ => KV 0 2 v0 τ.2) := by
  unfold F_X11_tagCost
  refine pk_b1 pk_top (fun _ _ => ?_)
  refine pk_ite ?_ ?_
  · exact (K_X11_tagCost_32 h)
  · refine pk_b1 pk_top (fun _ _ => ?_)
    refine pk_ite ?_ ?_
    · exact (K_X11_tagCost_32 h)
    · refine pk_b1 pk_top (fun _ _ => ?_)
      refine pk_ite ?_ ?_
      · exact (K_X11_tagCost_32 h)
      · refine pk_b2 (K_X1_costOfTag h) (fun _ s_1 (h_2 : KV 0 2 v0 s_1) => ?_)
        exact pk_some h_2
theorem K_X11_tag_22 {v0 : Int32} {s : mG} (h : KV 0 2 v0 s) : pk (F_X11_tag_22 s) (fun τ => KV 0 2 v0 τ.2) := by
  unfold F_X11_tag_22
  exact pk_some h
theorem K_X11_tag {v0 : Int32} {a1 : Int32} {a2 : Int32} {s : mG} (h : KV 0 2 v0 s) : pk (F_X11_tag a1 a2 s) (fun τ => KV 0 2 v0 τ.2) := by
  unfold F_X11_tag
  refine pk_b1 pk_top (fun _ _ => ?_)
  refine pk_ite ?_ ?_
  · exact (K_X11_tag_22 h)
  · refine pk_b1 pk_top (fun _ _ => ?_)
    refine pk_ite ?_ ?_
    · exact (K_X11_tag_22 h)
    · refine pk_b2 (K_X1_bestTag h) (fun _ s_1 (h_2 : KV 0 2 v0 s_1) => ?_)
      exact pk_some h_2
theorem K_X11_stands_26 {v0 : Int32} {s : mG} (h : KV 0 2 v0 s) : pk (F_X11_stands_26 s) (fun τ => KV 0 2 v0 τ.2) := by
  unfold F_X11_stands_26
  exact pk_some h
theorem K_X11_stands_28 {v0 : Int32} {x1 : Int32} {x2 : Int32} {s : mG} (h : KV 0 2 v0 s) : pk (F_X11_stands_28 x1 x2 s) (fun τ => KV 0 2 v0 τ.2) := by
  unfold F_X11_stands_28
  refine pk_b1 (K_X1_plan h) (fun s_1 (h_2 : KV 0 2 v0 s_1) => ?_)
  refine pk_ite ?_ ?_
  · refine pk_b1 pk_top (fun _ _ => ?_)
    exact pk_some h_2
  · refine pk_b1 pk_top (fun _ _ => ?_)
    exact pk_some h_2
theorem K_X11_stands {v0 : Int32} {a1 : Int32} {a2 : Int32} {s : mG} (h : KV 0 2 v0 s) : pk (F_X11_stands a1 a2 s) (fun τ => KV 0 2 v0 τ.2) := by
  unfold F_X11_stands
  refine pk_b1 pk_top (fun _ _ => ?_)
  refine pk_ite ?_ ?_
  · exact (K_X11_stands_26 h)
  · refine pk_ite ?_ ?_
    · exact (K_X11_stands_28 h)
    · refine pk_b1 pk_top (fun _ _ => ?_)
      refine pk_ite ?_ ?_
      · exact (K_X11_stands_26 h)
      · exact (K_X11_stands_28 h)
theorem K_X11_carries {v0 : Int32} {s : mG} (h : KV 0 2 v0 s) : pk (F_X11_carries s) (fun τ => KV 0 2 v0 τ.2) := by
  unfold F_X11_carries
  refine pk_b2 (K_X1_likeliestToCarry h) (fun _ s_1 (h_2 : KV 0 2 v0 s_1) => ?_)
  exact pk_some h_2
theorem K_X11_away_32 {v0 : Int32} {s : mG} (h : KV 0 2 v0 s) : pk (F_X11_away_32 s) (fun τ => KV 0 2 v0 τ.2) := by
  unfold F_X11_away_32
  exact pk_some h
theorem K_X11_away {v0 : Int32} {a1 : Int32} {a2 : Int32} {s : mG} (h : KV 0 2 v0 s) : pk (F_X11_away a1 a2 s) (fun τ => KV 0 2 v0 τ.2) := by
  unfold F_X11_away
  refine pk_b1 pk_top (fun _ _ => ?_)
  refine pk_ite ?_ ?_
  · exact (K_X11_away_32 h)
  · refine pk_b1 pk_top (fun _ _ => ?_)
    refine pk_ite ?_ ?_
    · exact (K_X11_away_32 h)
    · refine pk_b1 pk_top (fun _ _ => ?_)
      refine pk_ite ?_ ?_
      · exact (K_X11_away_32 h)
      · refine pk_b2 (K_X1_stillOut h) (fun _ s_1 (h_2 : KV 0 2 v0 s_1) => ?_)
        exact pk_some h_2
theorem K_X11_knocks {v0 : Int32} {a1 : Int32} {s : mG} (h : KV 0 2 v0 s) : pk (F_X11_knocks a1 s) (fun τ => KV 0 2 v0 τ.2) := by
  unfold F_X11_knocks
  refine pk_b2 (K_X9_roomAt h) (fun _ s_1 (h_2 : KV 0 2 v0 s_1) => ?_)
  exact pk_some h_2
theorem K_X11_fire_87 {v0 : Int32} {s : mG} (h : KV 0 2 v0 s) : pk (F_X11_fire_87 s) (fun τ => KV 0 2 v0 τ.2) := by
  unfold F_X11_fire_87
  exact pk_some h
theorem K_X11_fire {v0 : Int32} {a1 : Int32} {a2 : Int32} {s : mG} (h : KV 0 2 v0 s) : pk (F_X11_fire a1 a2 s) (fun τ => KV 0 2 v0 τ.2) := by
  unfold F_X11_fire
  refine pk_b1 pk_top (fun _ _ => ?_)
  refine pk_ite ?_ ?_
  · exact pk_some h
  · refine pk_b1 (K_X9_searchFloors h) (fun s_1 (h_2 : KV 0 2 v0 s_1) => ?_)
    refine pk_ite ?_ ?_
    · extract_lets +onlyGivenNames v_3
      clear_value v_3
      exact pk_some h_2
    · refine pk_ite ?_ ?_
      · exact pk_some h_2
      · refine pk_ite ?_ ?_
        · exact (K_X11_fire_87 h_2)
        · refine pk_ite ?_ ?_
          · exact (K_X11_fire_87 h_2)
          · refine pk_b1 pk_top (fun _ _ => ?_)
            exact pk_some h_2
theorem K_X12_forgets {v0 : Int32} {s : mG} (h : KV 88 4 v0 s) : pk (F_X12_forgets s) (fun τ => KV 88 4 v0 τ) := by
  unfold F_X12_forgets
  extract_lets +onlyGivenNames s_1
  have h_2 : KV 88 4 v0 s_1 := KV_mu h (Or.inr (by decide))
  clear_value s_1
  exact pk_some h_2
theorem K_X12_state {v0 : Int32} {a1 : Int32} {s : mG} (h : KV 88 4 v0 s) : pk (F_X12_state a1 s) (fun τ => KV 88 4 v0 τ.2) := by
  unfold F_X12_state
  extract_lets +onlyGivenNames s_1
  have h_2 : KV 88 4 v0 s_1 := KV_mu h (Or.inl (by decide))
  clear_value s_1
  refine pk_b1 (K_X12_forgets h_2) (fun s_3 (h_4 : KV 88 4 v0 s_3) => ?_)
  exact pk_some h_4
theorem K_X12_draw {v0 : Int32} {a1 : Int32} {s : mG} (h : KV 88 4 v0 s) : pk (F_X12_draw a1 s) (fun τ => KV 88 4 v0 τ.2) := by
  unfold F_X12_draw
  extract_lets +onlyGivenNames s_1
  have h_2 : KV 88 4 v0 s_1 := KV_mu h (Or.inl (by decide))
  clear_value s_1
  refine pk_nn ?_
  extract_lets +onlyGivenNames v_3
  clear_value v_3
  exact pk_some h_2
theorem K_X12_guest_31 {v0 : Int32} {s : mG} (h : KV 88 4 v0 s) : pk (F_X12_guest_31 s) (fun τ => KV 88 4 v0 τ.2) := by
  unfold F_X12_guest_31
  exact pk_some h
theorem K_X12_guest_B94 {v0 : Int32} {x3 : Int32} {x4 : Int32} {s : mG} (h : KV 88 4 v0 s) : pk (F_X12_guest_B94 x3 x4 s) (se (fun τ => KV 88 4 v0 τ.2.2) (fun τ => KV 88 4 v0 τ.2)) := by
  unfold F_X12_guest_B94
  refine pk_ite ?_ ?_
  · extract_lets +onlyGivenNames s_1
    have h_2 : KV 88 4 v0 s_1 := KV_mu h (Or.inl (by decide))
    clear_value s_1
    refine pk_b1 (K_X12_forgets h_2) (fun s_3 (h_4 : KV 88 4 v0 s_3) => ?_)
    exact pk_some h_4
  · refine pk_nn ?_
    extract_lets +onlyGivenNames s_5
    have h_6 : KV 88 4 v0 s_5 := KV_mu h (Or.inl (by decide))
    clear_value s_5
    exact pk_some h_6
theorem K_X12_guest_L94 {v0 : Int32} {x3 : Int32} {x4 : Int32} {s : mG} (h : KV 88 4 v0 s) : pk (F_X12_guest_L94 x3 x4 s) (fun τ => KV 88 4 v0 τ.2) := by
  unfold F_X12_guest_L94
  refine pk_whl (fun v => KV 88 4 v0 v.2.2) h (fun v hv => ?_)
  obtain ⟨y0, y1, y2⟩ := v
  exact K_X12_guest_B94 hv
theorem K_X12_guest {v0 : Int32} {a1 : Int32} {a2 : Int32} {s : mG} (h : KV 88 4 v0 s) : pk (F_X12_guest a1 a2 s) (fun τ => KV 88 4 v0 τ.2) := by
  unfold F_X12_guest
  refine pk_b1 pk_top (fun _ _ => ?_)
  refine pk_ite ?_ ?_
  · exact (K_X12_guest_31 h)
  · refine pk_b1 pk_top (fun _ _ => ?_)
    refine pk_ite ?_ ?_
    · exact (K_X12_guest_31 h)
    · refine pk_ite ?_ ?_
      · exact (K_X12_guest_31 h)
      · refine pk_nn ?_
        extract_lets +onlyGivenNames s_1
        have h_2 : KV 88 4 v0 s_1 := KV_mu h (Or.inl (by decide))
        clear_value s_1
        refine pk_nn ?_
        extract_lets +onlyGivenNames s_3
        have h_4 : KV 88 4 v0 s_3 := KV_mu h_2 (Or.inl (by decide))
        clear_value s_3
        refine pk_nn ?_
        extract_lets +onlyGivenNames s_5
        have h_6 : KV 88 4 v0 s_5 := KV_mu h_4 (Or.inl (by decide))
        clear_value s_5
        refine pk_nn ?_
        extract_lets +onlyGivenNames s_7
        have h_8 : KV 88 4 v0 s_7 := KV_mu h_6 (Or.inl (by decide))
        clear_value s_7
        refine pk_nn ?_
        extract_lets +onlyGivenNames s_9
        have h_10 : KV 88 4 v0 s_9 := KV_mu h_8 (Or.inl (by decide))
        clear_value s_9
        exact (K_X12_guest_L94 h_10)
theorem K_X12_set_110 {v0 : Int32} {s : mG} (h : KV 88 4 v0 s) : pk (F_X12_set_110 s) (fun τ => KV 88 4 v0 τ.2) := by
  unfold F_X12_set_110
  refine pk_b1 (K_X12_forgets h) (fun s_1 (h_2 : KV 88 4 v0 s_1) => ?_)
  exact pk_some h_2
theorem K_X12_set_92 {v0 : Int32} {s : mG} (h : KV 88 4 v0 s) : pk (F_X12_set_92 s) (fun τ => KV 88 4 v0 τ.2) := by
  unfold F_X12_set_92
  exact pk_some h
theorem K_X12_set {v0 : Int32} {a1 : Int32} {a2 : Int32} {a3 : Int32} {s : mG} (h : KV 88 4 v0 s) : pk (F_X12_set a1 a2 a3 s) (fun τ => KV 88 4 v0 τ.2) := by
  unfold F_X12_set
  refine pk_ite ?_ ?_
  · refine pk_b1 pk_top (fun _ _ => ?_)
    refine pk_ite ?_ ?_
    · exact pk_some h
    · extract_lets +onlyGivenNames s_1
      have h_2 : KV 88 4 v0 s_1 := KV_mu h (Or.inl (by decide))
      clear_value s_1
      exact (K_X12_set_110 h_2)
  · refine pk_ite ?_ ?_
    · refine pk_b1 pk_top (fun _ _ => ?_)
      refine pk_ite ?_ ?_
      · exact pk_some h
      · extract_lets +onlyGivenNames s_3
        have h_4 : KV 88 4 v0 s_3 := KV_mu h (Or.inl (by decide))
        clear_value s_3
        exact (K_X12_set_110 h_4)
    · refine pk_ite ?_ ?_
      · refine pk_b1 pk_top (fun _ _ => ?_)
        refine pk_ite ?_ ?_
        · exact (K_X12_set_92 h)
        · refine pk_b1 pk_top (fun _ _ => ?_)
          refine pk_ite ?_ ?_
          · exact (K_X12_set_92 h)
          · refine pk_nn ?_
            extract_lets +onlyGivenNames s_5
            have h_6 : KV 88 4 v0 s_5 := KV_mu h (Or.inl (by decide))
            clear_value s_5
            exact (K_X12_set_110 h_6)
      · exact pk_some h
theorem K_X12_feed_71 {v0 : Int32} {x1 : Int32} {x2 : Int32} {x3 : Int32} {x4 : Int32} {x5 : Int32} {x6 : Int32} {y0 : Int32} {s : mG} (h : KV 88 4 v0 s) : pk (F_X12_feed_71 x1 x2 x3 x4 x5 x6 y0 s) (se (fun τ => KV 88 4 v0 τ.2.2.2.2.2.2) (fun τ => KV 88 4 v0 τ.2)) := by
  unfold F_X12_feed_71
  refine pk_nn ?_
  extract_lets +onlyGivenNames s_1
  have h_2 : KV 88 4 v0 s_1 := KV_mu h (Or.inl (by decide))
  clear_value s_1
  extract_lets +onlyGivenNames s_3
  have h_4 : KV 88 4 v0 s_3 := KV_mu h_2 (Or.inr (by decide))
  clear_value s_3
  exact pk_some h_4
theorem K_X12_feed_B18 {v0 : Int32} {x1 : Int32} {x2 : Int32} {x3 : Int32} {x4 : Int32} {x5 : Int32} {x6 : Int32} {s : mG} (h : KV 88 4 v0 s) : pk (F_X12_feed_B18 x1 x2 x3 x4 x5 x6 s) (se (fun τ => KV 88 4 v0 τ.2.2.2.2.2.2) (fun τ => KV 88 4 v0 τ.2)) := by
  unfold F_X12_feed_B18
  refine pk_ite ?_ ?_
  · exact pk_some h
  · refine pk_ite ?_ ?_
    · refine pk_ite ?_ ?_
      · refine pk_ite ?_ ?_
        · refine pk_ite ?_ ?_
          · exact (K_X12_feed_71 h)
          · exact (K_X12_feed_71 h)
        · exact (K_X12_feed_71 h)
      · exact (K_X12_feed_71 h)
    · exact (K_X12_feed_71 h)
theorem K_X12_feed_L18 {v0 : Int32} {x1 : Int32} {x2 : Int32} {x3 : Int32} {x4 : Int32} {x5 : Int32} {x6 : Int32} {s : mG} (h : KV 88 4 v0 s) : pk (F_X12_feed_L18 x1 x2 x3 x4 x5 x6 s) (fun τ => KV 88 4 v0 τ.2) := by
  unfold F_X12_feed_L18
  refine pk_whl (fun v => KV 88 4 v0 v.2.2.2.2.2.2) h (fun v hv => ?_)
  obtain ⟨y0, y1, y2, y3, y4, y5, y6⟩ := v
  exact K_X12_feed_B18 hv
theorem K_X12_feed {v0 : Int32} {a1 : Int32} {a2 : Int32} {a3 : Int32} {a4 : Int32} {a5 : Int32} {s : mG} (h : KV 88 4 v0 s) : pk (F_X12_feed a1 a2 a3 a4 a5 s) (fun τ => KV 88 4 v0 τ.2) := by
  unfold F_X12_feed
  refine pk_ite ?_ ?_
  · exact (K_X12_feed_L18 h)
  · exact pk_some h
theorem K_X12_end {v0 : Int32} {a1 : Int32} {s : mG} (h : KV 88 4 v0 s) : pk (F_X12_end a1 s) (fun τ => KV 88 4 v0 τ.2) := by
  unfold F_X12_end
  refine pk_b1 pk_top (fun _ _ => ?_)
  refine pk_ite ?_ ?_
  · exact pk_some h
  · extract_lets +onlyGivenNames s_1
    have h_2 : KV 88 4 v0 s_1 := KV_mu h (Or.inr (by decide))
    clear_value s_1
    exact pk_some h_2
theorem K_X12_next0_26 {v0 : Int32} {s : mG} (h : KV 88 4 v0 s) : pk (F_X12_next0_26 s) (se (fun τ => KV 88 4 v0 τ) (fun τ => KV 88 4 v0 τ)) := by
  unfold F_X12_next0_26
  extract_lets +onlyGivenNames s_1
  have h_2 : KV 88 4 v0 s_1 := KV_mu h (Or.inr (by decide))
  clear_value s_1
  exact pk_some h_2
theorem K_X12_next0_303 {v0 : Int32} {y1 : Int32} {s : mG} (h : KV 88 4 v0 s) : pk (F_X12_next0_303 y1 s) (fun τ => KV 88 4 v0 τ) := by
  unfold F_X12_next0_303
  extract_lets +onlyGivenNames s_1
  have h_2 : KV 88 4 v0 s_1 := KV_mu h (Or.inr (by decide))
  clear_value s_1
  exact pk_some h_2
theorem K_X12_next0_289 {v0 : Int32} {x1 : Int32} {y0 : Int32} {s : mG} (h : KV 88 4 v0 s) : pk (F_X12_next0_289 x1 y0 s) (fun τ => KV 88 4 v0 τ) := by
  unfold F_X12_next0_289
  refine pk_ite ?_ ?_
  · exact (K_X12_next0_303 h)
  · exact (K_X12_next0_303 h)
theorem K_X12_next0_284 {v0 : Int32} {x1 : Int32} {s : mG} (h : KV 88 4 v0 s) : pk (F_X12_next0_284 x1 s) (fun τ => KV 88 4 v0 τ) := by
  unfold F_X12_next0_284
  exact (K_X12_next0_289 h)
theorem K_X12_next0_208 {v0 : Int32} {y1 : Int32} {s : mG} (h : KV 88 4 v0 s) : pk (F_X12_next0_208 y1 s) (fun τ => KV 88 4 v0 τ) := by
  unfold F_X12_next0_208
  extract_lets +onlyGivenNames s_1
  have h_2 : KV 88 4 v0 s_1 := KV_mu h (Or.inr (by decide))
  clear_value s_1
  exact pk_some h_2
theorem K_X12_next0_176 {v0 : Int32} {s : mG} (h : KV 88 4 v0 s) : pk (F_X12_next0_176 s) (se (fun τ => KV 88 4 v0 τ) (fun τ => KV 88 4 v0 τ)) := by
  unfold F_X12_next0_176
  extract_lets +onlyGivenNames s_1
  have h_2 : KV 88 4 v0 s_1 := KV_mu h (Or.inr (by decide))
  clear_value s_1
  exact pk_some h_2
theorem K_X12_next0_B126 {v0 : Int32} {s : mG} (h : KV 88 4 v0 s) : pk (F_X12_next0_B126 s) (se (fun τ => KV 88 4 v0 τ) (fun τ => KV 88 4 v0 τ)) := by
  unfold F_X12_next0_B126
  refine pk_b1 pk_top (fun _ _ => ?_)
  refine pk_b1 pk_top (fun _ _ => ?_)
  refine pk_ite ?_ ?_
  · refine pk_ite ?_ ?_
    · refine pk_b1r ?_
      exact (K_X12_next0_208 h)
    · refine pk_b1r ?_
      exact (K_X12_next0_208 h)
  · refine pk_ite ?_ ?_
    · exact (K_X12_next0_176 h)
    · refine pk_b1 pk_top (fun _ _ => ?_)
      extract_lets +onlyGivenNames s_1
      have h_2 : KV 88 4 v0 s_1 := KV_mu h (Or.inr (by decide))
      clear_value s_1
      exact (K_X12_next0_176 h_2)
theorem K_X12_next0_L126 {v0 : Int32} {s : mG} (h : KV 88 4 v0 s) : pk (F_X12_next0_L126 s) (fun τ => KV 88 4 v0 τ) := by
  unfold F_X12_next0_L126
  refine pk_whl (fun v => KV 88 4 v0 v) h (fun v hv => ?_)
  exact K_X12_next0_B126 hv
theorem K_X12_next0_B76 {v0 : Int32} {s : mG} (h : KV 88 4 v0 s) : pk (F_X12_next0_B76 s) (se (fun τ => KV 88 4 v0 τ) (fun τ => KV 88 4 v0 τ)) := by
  unfold F_X12_next0_B76
  refine pk_b1 pk_top (fun _ _ => ?_)
  refine pk_b1 pk_top (fun _ _ => ?_)
  refine pk_ite ?_ ?_
  · refine pk_b1 pk_top (fun _ _ => ?_)
    extract_lets +onlyGivenNames s_1
    have h_2 : KV 88 4 v0 s_1 := KV_mu h (Or.inr (by decide))
    clear_value s_1
    exact pk_some h_2
  · extract_lets +onlyGivenNames s_3
    have h_4 : KV 88 4 v0 s_3 := KV_mu h (Or.inr (by decide))
    clear_value s_3
    exact pk_some h_4
theorem K_X12_next0_L76 {v0 : Int32} {s : mG} (h : KV 88 4 v0 s) : pk (F_X12_next0_L76 s) (fun τ => KV 88 4 v0 τ) := by
  unfold F_X12_next0_L76
  refine pk_whl (fun v => KV 88 4 v0 v) h (fun v hv => ?_)
  exact K_X12_next0_B76 hv
theorem K_X12_next0_B0 {v0 : Int32} {s : mG} (h : KV 88 4 v0 s) : pk (F_X12_next0_B0 s) (se (fun τ => KV 88 4 v0 τ) (fun τ => KV 88 4 v0 τ)) := by
  unfold F_X12_next0_B0
  refine pk_b1 pk_top (fun _ _ => ?_)
  refine pk_ite ?_ ?_
  · exact (K_X12_next0_26 h)
  · refine pk_b1 pk_top (fun _ _ => ?_)
    refine pk_ite ?_ ?_
    · exact (K_X12_next0_26 h)
    · extract_lets +onlyGivenNames s_1
      have h_2 : KV 88 4 v0 s_1 := KV_mu h (Or.inr (by decide))
      clear_value s_1
      refine pk_b1 pk_top (fun _ _ => ?_)
      refine pk_ite ?_ ?_
      · extract_lets +onlyGivenNames s_3
        have h_4 : KV 88 4 v0 s_3 := KV_mu h_2 (Or.inr (by decide))
        clear_value s_3
        exact pk_some h_4
      · refine pk_b1 pk_top (fun _ _ => ?_)
        refine pk_ite ?_ ?_
        · refine pk_b1 pk_top (fun _ _ => ?_)
          refine pk_ite ?_ ?_
          · extract_lets +onlyGivenNames s_5
            have h_6 : KV 88 4 v0 s_5 := KV_mu h_2 (Or.inr (by decide))
            clear_value s_5
            refine pk_ite ?_ ?_
            · refine pk_b1r ?_
              exact (K_X12_next0_284 h_6)
            · refine pk_ite ?_ ?_
              · refine pk_b1r ?_
                exact (K_X12_next0_284 h_6)
              · refine pk_ite ?_ ?_
                · refine pk_b1r ?_
                  exact (K_X12_next0_284 h_6)
                · refine pk_ite ?_ ?_
                  · refine pk_b1r ?_
                    exact (K_X12_next0_284 h_6)
                  · refine pk_ite ?_ ?_
                    · refine pk_b1r ?_
                      exact (K_X12_next0_284 h_6)
                    · refine pk_ite ?_ ?_
                      · refine pk_b1r ?_
                        exact (K_X12_next0_284 h_6)
                      · refine pk_ite ?_ ?_
                        · refine pk_b1r ?_
                          exact (K_X12_next0_284 h_6)
                        · refine pk_ite ?_ ?_
                          · refine pk_b1r ?_
                            exact (K_X12_next0_284 h_6)
                          · refine pk_ite ?_ ?_
                            · refine pk_b1r ?_
                              exact (K_X12_next0_284 h_6)
                            · refine pk_ite ?_ ?_
                              · refine pk_b1r ?_
                                exact (K_X12_next0_284 h_6)
                              · refine pk_b1r ?_
                                exact (K_X12_next0_289 h_6)
          · extract_lets +onlyGivenNames s_7
            have h_8 : KV 88 4 v0 s_7 := KV_mu h_2 (Or.inr (by decide))
            clear_value s_7
            refine pk_b1r ?_
            exact (K_X12_next0_L126 h_8)
        · refine pk_b1r ?_
          exact (K_X12_next0_L76 h_2)
theorem K_X12_next0_L0 {v0 : Int32} {s : mG} (h : KV 88 4 v0 s) : pk (F_X12_next0_L0 s) (fun τ => KV 88 4 v0 τ) := by
  unfold F_X12_next0_L0
  refine pk_whl (fun v => KV 88 4 v0 v) h (fun v hv => ?_)
  exact K_X12_next0_B0 hv
theorem K_X12_next0 {v0 : Int32} {s : mG} (h : KV 88 4 v0 s) : pk (F_X12_next0 s) (fun τ => KV 88 4 v0 τ) := by
  unfold F_X12_next0
  exact (K_X12_next0_L0 h)
theorem K_X12_bad {v0 : Int32} {a1 : Int32} {s : mG} (h : KV 88 4 v0 s) : pk (F_X12_bad a1 s) (fun τ => KV 88 4 v0 τ.2) := by
  unfold F_X12_bad
  extract_lets +onlyGivenNames s_1
  have h_2 : KV 88 4 v0 s_1 := KV_mu h (Or.inr (by decide))
  clear_value s_1
  extract_lets +onlyGivenNames s_3
  have h_4 : KV 88 4 v0 s_3 := KV_mu h_2 (Or.inr (by decide))
  clear_value s_3
  exact pk_some h_4
theorem K_X12_need {v0 : Int32} {a1 : Int32} {s : mG} (h : KV 88 4 v0 s) : pk (F_X12_need a1 s) (fun τ => KV 88 4 v0 τ.2) := by
  unfold F_X12_need
  refine pk_ite ?_ ?_
  · refine pk_b1 (K_X12_next0 h) (fun s_1 (h_2 : KV 88 4 v0 s_1) => ?_)
    exact pk_some h_2
  · refine pk_b2 (K_X12_bad h) (fun _ s_3 (h_4 : KV 88 4 v0 s_3) => ?_)
    refine pk_pp ?_
    exact pk_some h_4
theorem K_X12_lay {v0 : Int32} {a1 : Int32} {a2 : Int32} {s : mG} (h : KV 88 4 v0 s) : pk (F_X12_lay a1 a2 s) (fun τ => KV 88 4 v0 τ) := by
  unfold F_X12_lay
  refine pk_nn ?_
  extract_lets +onlyGivenNames s_1
  have h_2 : KV 88 4 v0 s_1 := KV_mu h (Or.inl (by decide))
  clear_value s_1
  refine pk_nn ?_
  extract_lets +onlyGivenNames s_3
  have h_4 : KV 88 4 v0 s_3 := KV_mu h_2 (Or.inl (by decide))
  clear_value s_3
  extract_lets +onlyGivenNames s_5
  have h_6 : KV 88 4 v0 s_5 := KV_mu h_4 (Or.inr (by decide))
  clear_value s_5
  exact pk_some h_6
theorem K_X12_opens {v0 : Int32} {s : mG} (h : KV 88 4 v0 s) : pk (F_X12_opens s) (fun τ => KV 88 4 v0 τ.2) := by
  unfold F_X12_opens
  refine pk_ite ?_ ?_
  · refine pk_b2 (K_X12_bad h) (fun _ s_1 (h_2 : KV 88 4 v0 s_1) => ?_)
    refine pk_pp ?_
    exact pk_some h_2
  · extract_lets +onlyGivenNames s_3
    have h_4 : KV 88 4 v0 s_3 := KV_mu h (Or.inr (by decide))
    clear_value s_3
    refine pk_b1 (K_X12_next0 h_4) (fun s_5 (h_6 : KV 88 4 v0 s_5) => ?_)
    exact pk_some h_6
theorem K_X12_unit_46 {v0 : Int32} {y1 : Int32} {s : mG} (h : KV 88 4 v0 s) : pk (F_X12_unit_46 y1 s) (fun τ => KV 88 4 v0 τ.2) := by
  unfold F_X12_unit_46
  refine pk_b1 (K_X12_lay h) (fun s_1 (h_2 : KV 88 4 v0 s_1) => ?_)
  refine pk_b1 (K_X12_next0 h_2) (fun s_3 (h_4 : KV 88 4 v0 s_3) => ?_)
  exact pk_some h_4
theorem K_X12_unit_30 {v0 : Int32} {x1 : Int32} {s : mG} (h : KV 88 4 v0 s) : pk (F_X12_unit_30 x1 s) (fun τ => KV 88 4 v0 τ.2) := by
  unfold F_X12_unit_30
  refine pk_ite ?_ ?_
  · exact (K_X12_unit_46 h)
  · exact (K_X12_unit_46 h)
theorem K_X12_unit {v0 : Int32} {s : mG} (h : KV 88 4 v0 s) : pk (F_X12_unit s) (fun τ => KV 88 4 v0 τ.2) := by
  unfold F_X12_unit
  refine pk_b1 pk_top (fun _ _ => ?_)
  refine pk_ite ?_ ?_
  · exact (K_X12_unit_30 h)
  · refine pk_ite ?_ ?_
    · refine pk_b2 (K_X12_bad h) (fun _ s_1 (h_2 : KV 88 4 v0 s_1) => ?_)
      refine pk_pp ?_
      exact pk_some h_2
    · exact (K_X12_unit_30 h)
theorem K_X12_product_112 {v0 : Int32} {s : mG} (h : KV 88 4 v0 s) : pk (F_X12_product_112 s) (se (fun τ => KV 88 4 v0 τ) (fun τ => KV 88 4 v0 τ.2)) := by
  unfold F_X12_product_112
  exact pk_some h
theorem K_X12_product_44 {v0 : Int32} {y0 : Int32} {s : mG} (h : KV 88 4 v0 s) : pk (F_X12_product_44 y0 s) (se (fun τ => KV 88 4 v0 τ) (fun τ => KV 88 4 v0 τ.2)) := by
  unfold F_X12_product_44
  refine pk_b1 (K_X12_next0 h) (fun s_1 (h_2 : KV 88 4 v0 s_1) => ?_)
  refine pk_ite ?_ ?_
  · refine pk_b2 (K_X12_unit h_2) (fun _ s_3 (h_4 : KV 88 4 v0 s_3) => ?_)
    refine pk_ite ?_ ?_
    · exact pk_some h_4
    · refine pk_b1 (K_X12_lay h_4) (fun s_5 (h_6 : KV 88 4 v0 s_5) => ?_)
      exact (K_X12_product_112 h_6)
  · refine pk_ite ?_ ?_
    · refine pk_ite ?_ ?_
      · refine pk_b2 (K_X12_bad h_2) (fun _ s_7 (h_8 : KV 88 4 v0 s_7) => ?_)
        refine pk_pp ?_
        exact pk_some h_8
      · refine pk_b1 (K_X12_next0 h_2) (fun s_9 (h_10 : KV 88 4 v0 s_9) => ?_)
        refine pk_b1 (K_X12_lay h_10) (fun s_11 (h_12 : KV 88 4 v0 s_11) => ?_)
        exact (K_X12_product_112 h_12)
    · refine pk_b2 (K_X12_bad h_2) (fun _ s_13 (h_14 : KV 88 4 v0 s_13) => ?_)
      refine pk_pp ?_
      exact pk_some h_14
theorem K_X12_product_29 {v0 : Int32} {s : mG} (h : KV 88 4 v0 s) : pk (F_X12_product_29 s) (se (fun τ => KV 88 4 v0 τ) (fun τ => KV 88 4 v0 τ.2)) := by
  unfold F_X12_product_29
  refine pk_ite ?_ ?_
  · exact (K_X12_product_44 h)
  · exact (K_X12_product_44 h)
theorem K_X12_product_B9 {v0 : Int32} {s : mG} (h : KV 88 4 v0 s) : pk (F_X12_product_B9 s) (se (fun τ => KV 88 4 v0 τ) (fun τ => KV 88 4 v0 τ.2)) := by
  unfold F_X12_product_B9
  refine pk_ite ?_ ?_
  · exact (K_X12_product_29 h)
  · refine pk_ite ?_ ?_
    · exact (K_X12_product_29 h)
    · exact pk_some h
theorem K_X12_product_L9 {v0 : Int32} {s : mG} (h : KV 88 4 v0 s) : pk (F_X12_product_L9 s) (fun τ => KV 88 4 v0 τ.2) := by
  unfold F_X12_product_L9
  refine pk_whl (fun v => KV 88 4 v0 v) h (fun v hv => ?_)
  exact K_X12_product_B9 hv
theorem K_X12_product {v0 : Int32} {s : mG} (h : KV 88 4 v0 s) : pk (F_X12_product s) (fun τ => KV 88 4 v0 τ.2) := by
  unfold F_X12_product
  refine pk_b2 (K_X12_unit h) (fun _ s_1 (h_2 : KV 88 4 v0 s_1) => ?_)
  refine pk_ite ?_ ?_
  · exact pk_some h_2
  · exact (K_X12_product_L9 h_2)
theorem K_X12_sumUp_46 {v0 : Int32} {y0 : Int32} {s : mG} (h : KV 88 4 v0 s) : pk (F_X12_sumUp_46 y0 s) (se (fun τ => KV 88 4 v0 τ) (fun τ => KV 88 4 v0 τ.2)) := by
  unfold F_X12_sumUp_46
  refine pk_b1 (K_X12_next0 h) (fun s_1 (h_2 : KV 88 4 v0 s_1) => ?_)
  refine pk_b2 (K_X12_product h_2) (fun _ s_3 (h_4 : KV 88 4 v0 s_3) => ?_)
  refine pk_ite ?_ ?_
  · exact pk_some h_4
  · refine pk_b1 (K_X12_lay h_4) (fun s_5 (h_6 : KV 88 4 v0 s_5) => ?_)
    exact pk_some h_6
theorem K_X12_sumUp_29 {v0 : Int32} {s : mG} (h : KV 88 4 v0 s) : pk (F_X12_sumUp_29 s) (se (fun τ => KV 88 4 v0 τ) (fun τ => KV 88 4 v0 τ.2)) := by
  unfold F_X12_sumUp_29
  refine pk_ite ?_ ?_
  · exact (K_X12_sumUp_46 h)
  · exact (K_X12_sumUp_46 h)
theorem K_X12_sumUp_B9 {v0 : Int32} {s : mG} (h : KV 88 4 v0 s) : pk (F_X12_sumUp_B9 s) (se (fun τ => KV 88 4 v0 τ) (fun τ => KV 88 4 v0 τ.2)) := by
  unfold F_X12_sumUp_B9
  refine pk_ite ?_ ?_
  · exact (K_X12_sumUp_29 h)
  · refine pk_ite ?_ ?_
    · exact (K_X12_sumUp_29 h)
    · exact pk_some h
theorem K_X12_sumUp_L9 {v0 : Int32} {s : mG} (h : KV 88 4 v0 s) : pk (F_X12_sumUp_L9 s) (fun τ => KV 88 4 v0 τ.2) := by
  unfold F_X12_sumUp_L9
  refine pk_whl (fun v => KV 88 4 v0 v) h (fun v hv => ?_)
  exact K_X12_sumUp_B9 hv
theorem K_X12_sumUp {v0 : Int32} {s : mG} (h : KV 88 4 v0 s) : pk (F_X12_sumUp s) (fun τ => KV 88 4 v0 τ.2) := by
  unfold F_X12_sumUp
  refine pk_b2 (K_X12_product h) (fun _ s_1 (h_2 : KV 88 4 v0 s_1) => ?_)
  refine pk_ite ?_ ?_
  · exact pk_some h_2
  · exact (K_X12_sumUp_L9 h_2)
theorem K_X12_every_B9 {v0 : Int32} {rec : mG → Option (Int32 × mG)} {s : mG} (hrec : ∀ (r : mG), KV 88 4 v0 r → pk (rec r) (fun τ => KV 88 4 v0 τ.2)) (h : KV 88 4 v0 s) : pk (F_X12_every_B9 rec s) (se (fun τ => KV 88 4 v0 τ) (fun τ => KV 88 4 v0 τ.2)) := by
  unfold F_X12_every_B9
  refine pk_ite ?_ ?_
  · refine pk_b1 (K_X12_next0 h) (fun s_1 (h_2 : KV 88 4 v0 s_1) => ?_)
    refine pk_b2 (hrec _ h_2) (fun _ s_3 (h_4 : KV 88 4 v0 s_3) => ?_)
    refine pk_ite ?_ ?_
    · exact pk_some h_4
    · refine pk_b1 (K_X12_lay h_4) (fun s_5 (h_6 : KV 88 4 v0 s_5) => ?_)
      exact pk_some h_6
  · exact pk_some h
theorem K_X12_every_L9 {v0 : Int32} {rec : mG → Option (Int32 × mG)} {s : mG} (hrec : ∀ (r : mG), KV 88 4 v0 r → pk (rec r) (fun τ => KV 88 4 v0 τ.2)) (h : KV 88 4 v0 s) : pk (F_X12_every_L9 rec s) (fun τ => KV 88 4 v0 τ.2) := by
  unfold F_X12_every_L9
  refine pk_whl (fun v => KV 88 4 v0 v) h (fun v hv => ?_)
  exact K_X12_every_B9 hrec hv
theorem K_X12_every {v0 : Int32} {rec : mG → Option (Int32 × mG)} {s : mG} (hrec : ∀ (r : mG), KV 88 4 v0 r → pk (rec r) (fun τ => KV 88 4 v0 τ.2)) (h : KV 88 4 v0 s) : pk (F_X12_every rec s) (fun τ => KV 88 4 v0 τ.2) := by
  unfold F_X12_every
  refine pk_b2 (hrec _ h) (fun _ s_1 (h_2 : KV 88 4 v0 s_1) => ?_)
  refine pk_ite ?_ ?_
  · exact pk_some h_2
  · exact (K_X12_every_L9 hrec h_2)
theorem K_X12_any_B9 {v0 : Int32} {rec : mG → Option (Int32 × mG)} {s : mG} (hrec : ∀ (r : mG), KV 88 4 v0 r → pk (rec r) (fun τ => KV 88 4 v0 τ.2)) (h : KV 88 4 v0 s) : pk (F_X12_any_B9 rec s) (se (fun τ => KV 88 4 v0 τ) (fun τ => KV 88 4 v0 τ.2)) := by
  unfold F_X12_any_B9
  refine pk_ite ?_ ?_
  · refine pk_b1 (K_X12_next0 h) (fun s_1 (h_2 : KV 88 4 v0 s_1) => ?_)
    refine pk_b2 (K_X12_every hrec h_2) (fun _ s_3 (h_4 : KV 88 4 v0 s_3) => ?_)
    refine pk_ite ?_ ?_
    · exact pk_some h_4
    · refine pk_b1 (K_X12_lay h_4) (fun s_5 (h_6 : KV 88 4 v0 s_5) => ?_)
      exact pk_some h_6
  · exact pk_some h
theorem K_X12_any_L9 {v0 : Int32} {rec : mG → Option (Int32 × mG)} {s : mG} (hrec : ∀ (r : mG), KV 88 4 v0 r → pk (rec r) (fun τ => KV 88 4 v0 τ.2)) (h : KV 88 4 v0 s) : pk (F_X12_any_L9 rec s) (fun τ => KV 88 4 v0 τ.2) := by
  unfold F_X12_any_L9
  refine pk_whl (fun v => KV 88 4 v0 v) h (fun v hv => ?_)
  exact K_X12_any_B9 hrec hv
theorem K_X12_any {v0 : Int32} {rec : mG → Option (Int32 × mG)} {s : mG} (hrec : ∀ (r : mG), KV 88 4 v0 r → pk (rec r) (fun τ => KV 88 4 v0 τ.2)) (h : KV 88 4 v0 s) : pk (F_X12_any rec s) (fun τ => KV 88 4 v0 τ.2) := by
  unfold F_X12_any
  refine pk_b2 (K_X12_every hrec h) (fun _ s_1 (h_2 : KV 88 4 v0 s_1) => ?_)
  refine pk_ite ?_ ?_
  · exact pk_some h_2
  · exact (K_X12_any_L9 hrec h_2)
theorem K_X12_oneTest_23 {v0 : Int32} {rec : mG → Option (Int32 × mG)} {s : mG} (hrec : ∀ (r : mG), KV 88 4 v0 r → pk (rec r) (fun τ => KV 88 4 v0 τ.2)) (h : KV 88 4 v0 s) : pk (F_X12_oneTest_23 rec s) (fun τ => KV 88 4 v0 τ.2) := by
  unfold F_X12_oneTest_23
  exact pk_some h
theorem K_X12_oneTest_78 {v0 : Int32} {rec : mG → Option (Int32 × mG)} {s : mG} (hrec : ∀ (r : mG), KV 88 4 v0 r → pk (rec r) (fun τ => KV 88 4 v0 τ.2)) (h : KV 88 4 v0 s) : pk (F_X12_oneTest_78 rec s) (fun τ => KV 88 4 v0 τ.2) := by
  unfold F_X12_oneTest_78
  exact pk_some h
theorem K_X12_oneTest_147 {v0 : Int32} {rec : mG → Option (Int32 × mG)} {y0 : Int32} {s : mG} (hrec : ∀ (r : mG), KV 88 4 v0 r → pk (rec r) (fun τ => KV 88 4 v0 τ.2)) (h : KV 88 4 v0 s) : pk (F_X12_oneTest_147 rec y0 s) (fun τ => KV 88 4 v0 τ.2) := by
  unfold F_X12_oneTest_147
  refine pk_ite ?_ ?_
  · refine pk_b2 (K_X12_bad h) (fun _ s_1 (h_2 : KV 88 4 v0 s_1) => ?_)
    refine pk_pp ?_
    exact pk_some h_2
  · refine pk_b1 (K_X12_next0 h) (fun s_3 (h_4 : KV 88 4 v0 s_3) => ?_)
    refine pk_b2 (K_X12_sumUp h_4) (fun _ s_5 (h_6 : KV 88 4 v0 s_5) => ?_)
    refine pk_ite ?_ ?_
    · exact pk_some h_6
    · refine pk_b1 (K_X12_lay h_6) (fun s_7 (h_8 : KV 88 4 v0 s_7) => ?_)
      exact pk_some h_8
theorem K_X12_oneTest {v0 : Int32} {rec : mG → Option (Int32 × mG)} {s : mG} (hrec : ∀ (r : mG), KV 88 4 v0 r → pk (rec r) (fun τ => KV 88 4 v0 τ.2)) (h : KV 88 4 v0 s) : pk (F_X12_oneTest rec s) (fun τ => KV 88 4 v0 τ.2) := by
  unfold F_X12_oneTest
  refine pk_ite ?_ ?_
  · refine pk_b2 (K_X12_opens h) (fun _ s_1 (h_2 : KV 88 4 v0 s_1) => ?_)
    refine pk_ite ?_ ?_
    · exact (K_X12_oneTest_23 hrec h_2)
    · refine pk_b2 (hrec _ h_2) (fun _ s_3 (h_4 : KV 88 4 v0 s_3) => ?_)
      refine pk_ite ?_ ?_
      · exact (K_X12_oneTest_23 hrec h_4)
      · extract_lets +onlyGivenNames s_5
        have h_6 : KV 88 4 v0 s_5 := KV_mu h_4 (Or.inr (by decide))
        clear_value s_5
        refine pk_b1 (K_X12_lay h_6) (fun s_7 (h_8 : KV 88 4 v0 s_7) => ?_)
        exact pk_some h_8
  · refine pk_ite ?_ ?_
    · refine pk_b2 (K_X12_opens h) (fun _ s_9 (h_10 : KV 88 4 v0 s_9) => ?_)
      refine pk_ite ?_ ?_
      · exact (K_X12_oneTest_78 hrec h_10)
      · refine pk_b2 (K_X12_any hrec h_10) (fun _ s_11 (h_12 : KV 88 4 v0 s_11) => ?_)
        refine pk_ite ?_ ?_
        · exact (K_X12_oneTest_78 hrec h_12)
        · refine pk_b2 (K_X12_need h_12) (fun _ s_13 (h_14 : KV 88 4 v0 s_13) => ?_)
          refine pk_ite ?_ ?_
          · exact (K_X12_oneTest_78 hrec h_14)
          · extract_lets +onlyGivenNames s_15
            have h_16 : KV 88 4 v0 s_15 := KV_mu h_14 (Or.inr (by decide))
            clear_value s_15
            exact pk_some h_16
    · refine pk_b2 (K_X12_sumUp h) (fun _ s_17 (h_18 : KV 88 4 v0 s_17) => ?_)
      refine pk_ite ?_ ?_
      · exact pk_some h_18
      · refine pk_ite ?_ ?_
        · exact (K_X12_oneTest_147 hrec h_18)
        · refine pk_ite ?_ ?_
          · exact (K_X12_oneTest_147 hrec h_18)
          · refine pk_ite ?_ ?_
            · exact (K_X12_oneTest_147 hrec h_18)
            · exact (K_X12_oneTest_147 hrec h_18)
theorem K_Q_X12_oneTest {v0 : Int32} : ∀ (n : Nat) (s : mG), KV 88 4 v0 s → pk (Q_X12_oneTest n s) (fun τ => KV 88 4 v0 τ.2)
  | 0, _, _ => pk_none
  | n + 1, _, h => K_X12_oneTest (fun s h => K_Q_X12_oneTest n s h) h
theorem K_R_X12_oneTest {v0 : Int32} {s : mG} (h : KV 88 4 v0 s) : pk (R_X12_oneTest s) (fun τ => KV 88 4 v0 τ.2) := K_Q_X12_oneTest 9 s h
theorem K_X12_aLine_123 {v0 : Int32} {s : mG} (h : KV 88 4 v0 s) : pk (F_X12_aLine_123 s) (fun τ => KV 88 4 v0 τ.2) := by
  unfold F_X12_aLine_123
  refine pk_nn ?_
  extract_lets +onlyGivenNames s_1
  have h_2 : KV 88 4 v0 s_1 := KV_mu h (Or.inl (by decide))
  clear_value s_1
  refine pk_b2 (K_X12_need h_2) (fun _ s_3 (h_4 : KV 88 4 v0 s_3) => ?_)
  refine pk_pp ?_
  exact pk_some h_4
theorem K_X12_aLine {v0 : Int32} {s : mG} (h : KV 88 4 v0 s) : pk (F_X12_aLine s) (fun τ => KV 88 4 v0 τ.2) := by
  unfold F_X12_aLine
  refine pk_b1 pk_top (fun _ _ => ?_)
  refine pk_ite ?_ ?_
  · refine pk_b2 (K_X12_bad h) (fun _ s_1 (h_2 : KV 88 4 v0 s_1) => ?_)
    refine pk_pp ?_
    exact pk_some h_2
  · refine pk_ite ?_ ?_
    · refine pk_b2 (K_X12_bad h) (fun _ s_3 (h_4 : KV 88 4 v0 s_3) => ?_)
      refine pk_pp ?_
      exact pk_some h_4
    · extract_lets +onlyGivenNames s_5
      have h_6 : KV 88 4 v0 s_5 := KV_mu h (Or.inr (by decide))
      clear_value s_5
      refine pk_nn ?_
      extract_lets +onlyGivenNames s_7
      have h_8 : KV 88 4 v0 s_7 := KV_mu h_6 (Or.inl (by decide))
      clear_value s_7
      refine pk_b1 (K_X12_next0 h_8) (fun s_9 (h_10 : KV 88 4 v0 s_9) => ?_)
      refine pk_nn ?_
      extract_lets +onlyGivenNames s_11
      have h_12 : KV 88 4 v0 s_11 := KV_mu h_10 (Or.inl (by decide))
      clear_value s_11
      refine pk_b2 (K_X12_sumUp h_12) (fun _ s_13 (h_14 : KV 88 4 v0 s_13) => ?_)
      refine pk_ite ?_ ?_
      · exact pk_some h_14
      · refine pk_nn ?_
        extract_lets +onlyGivenNames s_15
        have h_16 : KV 88 4 v0 s_15 := KV_mu h_14 (Or.inl (by decide))
        clear_value s_15
        refine pk_ite ?_ ?_
        · refine pk_b1 (K_X12_next0 h_16) (fun s_17 (h_18 : KV 88 4 v0 s_17) => ?_)
          refine pk_b2 (K_X12_any (fun _ h => K_R_X12_oneTest h) h_18) (fun _ s_19 (h_20 : KV 88 4 v0 s_19) => ?_)
          refine pk_ite ?_ ?_
          · exact pk_some h_20
          · exact (K_X12_aLine_123 h_20)
        · exact (K_X12_aLine_123 h_16)
theorem K_X12_readsLaw_49 {v0 : Int32} {x1 : Int32} {s : mG} (h : KV 88 4 v0 s) : pk (F_X12_readsLaw_49 x1 s) (fun τ => KV 88 4 v0 τ.2) := by
  unfold F_X12_readsLaw_49
  refine pk_pp ?_
  exact pk_some h
theorem K_X12_readsLaw_42 {v0 : Int32} {x1 : Int32} {y1 : Int32} {y2 : Int32} {s : mG} (h : KV 88 4 v0 s) : pk (F_X12_readsLaw_42 x1 y1 y2 s) (se (fun τ => KV 88 4 v0 τ.2) (fun τ => KV 88 4 v0 τ.2)) := by
  unfold F_X12_readsLaw_42
  extract_lets +onlyGivenNames s_1
  have h_2 : KV 88 4 v0 s_1 := KV_mu h (Or.inr (by decide))
  clear_value s_1
  exact pk_some h_2
theorem K_X12_readsLaw_B12 {v0 : Int32} {x1 : Int32} {s : mG} (h : KV 88 4 v0 s) : pk (F_X12_readsLaw_B12 x1 s) (se (fun τ => KV 88 4 v0 τ.2) (fun τ => KV 88 4 v0 τ.2)) := by
  unfold F_X12_readsLaw_B12
  refine pk_ite ?_ ?_
  · refine pk_b1r ?_
    exact (K_X12_readsLaw_49 h)
  · refine pk_ite ?_ ?_
    · refine pk_b1r ?_
      exact (K_X12_readsLaw_49 h)
    · refine pk_b2 (K_X12_aLine h) (fun _ s_1 (h_2 : KV 88 4 v0 s_1) => ?_)
      refine pk_ite ?_ ?_
      · exact (K_X12_readsLaw_42 h_2)
      · exact (K_X12_readsLaw_42 h_2)
theorem K_X12_readsLaw_L12 {v0 : Int32} {x1 : Int32} {s : mG} (h : KV 88 4 v0 s) : pk (F_X12_readsLaw_L12 x1 s) (fun τ => KV 88 4 v0 τ.2) := by
  unfold F_X12_readsLaw_L12
  refine pk_whl (fun v => KV 88 4 v0 v.2) h (fun v hv => ?_)
  obtain ⟨y0, y1⟩ := v
  exact K_X12_readsLaw_B12 hv
theorem K_X12_readsLaw {v0 : Int32} {s : mG} (h : KV 88 4 v0 s) : pk (F_X12_readsLaw s) (fun τ => KV 88 4 v0 τ.2) := by
  unfold F_X12_readsLaw
  extract_lets +onlyGivenNames s_1
  have h_2 : KV 88 4 v0 s_1 := KV_mu h (Or.inr (by decide))
  clear_value s_1
  extract_lets +onlyGivenNames s_3
  have h_4 : KV 88 4 v0 s_3 := KV_mu h_2 (Or.inr (by decide))
  clear_value s_3
  exact (K_X12_readsLaw_L12 h_4)
theorem K_X12_number {v0 : Int32} {a1 : Int32} {a2 : Int32} {s : mG} (h : KV 88 4 v0 s) : pk (F_X12_number a1 a2 s) (fun τ => KV 88 4 v0 τ.2) := by
  unfold F_X12_number
  refine pk_ite ?_ ?_
  · refine pk_b1 pk_top (fun _ _ => ?_)
    refine pk_ite ?_ ?_
    · refine pk_b2 (K_X12_bad h) (fun _ s_1 (h_2 : KV 88 4 v0 s_1) => ?_)
      refine pk_pp ?_
      exact pk_some h_2
    · extract_lets +onlyGivenNames s_3
      have h_4 : KV 88 4 v0 s_3 := KV_mu h (Or.inr (by decide))
      clear_value s_3
      refine pk_b1 (K_X12_next0 h_4) (fun s_5 (h_6 : KV 88 4 v0 s_5) => ?_)
      exact pk_some h_6
  · refine pk_b2 (K_X12_bad h) (fun _ s_7 (h_8 : KV 88 4 v0 s_7) => ?_)
    refine pk_pp ?_
    exact pk_some h_8
theorem K_X12_told_18 {v0 : Int32} {s : mG} (h : KV 88 4 v0 s) : pk (F_X12_told_18 s) (fun τ => KV 88 4 v0 τ.2) := by
  unfold F_X12_told_18
  exact pk_some h
theorem K_X12_told {v0 : Int32} {a1 : Int32} {a2 : Int32} {a3 : Int32} {a4 : Int32} {s : mG} (h : KV 88 4 v0 s) : pk (F_X12_told a1 a2 a3 a4 s) (fun τ => KV 88 4 v0 τ.2) := by
  unfold F_X12_told
  refine pk_b2 (K_X12_need h) (fun _ s_1 (h_2 : KV 88 4 v0 s_1) => ?_)
  refine pk_ite ?_ ?_
  · exact (K_X12_told_18 h_2)
  · refine pk_b2 (K_X12_number h_2) (fun _ s_3 (h_4 : KV 88 4 v0 s_3) => ?_)
    refine pk_ite ?_ ?_
    · exact (K_X12_told_18 h_4)
    · refine pk_nn ?_
      extract_lets +onlyGivenNames s_5
      have h_6 : KV 88 4 v0 s_5 := KV_mu h_4 (Or.inl (by decide))
      clear_value s_5
      exact pk_some h_6
theorem K_X12_aSign_63 {v0 : Int32} {s : mG} (h : KV 88 4 v0 s) : pk (F_X12_aSign_63 s) (fun τ => KV 88 4 v0 τ.2) := by
  unfold F_X12_aSign_63
  exact pk_some h
theorem K_X12_aSign {v0 : Int32} {s : mG} (h : KV 88 4 v0 s) : pk (F_X12_aSign s) (fun τ => KV 88 4 v0 τ.2) := by
  unfold F_X12_aSign
  refine pk_b2 (K_X12_need h) (fun _ s_1 (h_2 : KV 88 4 v0 s_1) => ?_)
  refine pk_ite ?_ ?_
  · exact (K_X12_aSign_63 h_2)
  · refine pk_b2 (K_X12_told h_2) (fun _ s_3 (h_4 : KV 88 4 v0 s_3) => ?_)
    refine pk_ite ?_ ?_
    · exact (K_X12_aSign_63 h_4)
    · refine pk_b2 (K_X12_told h_4) (fun _ s_5 (h_6 : KV 88 4 v0 s_5) => ?_)
      refine pk_ite ?_ ?_
      · exact (K_X12_aSign_63 h_6)
      · refine pk_b2 (K_X12_need h_6) (fun _ s_7 (h_8 : KV 88 4 v0 s_7) => ?_)
        refine pk_ite ?_ ?_
        · exact (K_X12_aSign_63 h_8)
        · exact pk_some h_8
theorem K_X12_aShift_90 {v0 : Int32} {s : mG} (h : KV 88 4 v0 s) : pk (F_X12_aShift_90 s) (fun τ => KV 88 4 v0 τ.2) := by
  unfold F_X12_aShift_90
  exact pk_some h
theorem K_X12_aShift {v0 : Int32} {s : mG} (h : KV 88 4 v0 s) : pk (F_X12_aShift s) (fun τ => KV 88 4 v0 τ.2) := by
  unfold F_X12_aShift
  refine pk_b2 (K_X12_told h) (fun _ s_1 (h_2 : KV 88 4 v0 s_1) => ?_)
  refine pk_ite ?_ ?_
  · exact (K_X12_aShift_90 h_2)
  · refine pk_b2 (K_X12_told h_2) (fun _ s_3 (h_4 : KV 88 4 v0 s_3) => ?_)
    refine pk_ite ?_ ?_
    · exact (K_X12_aShift_90 h_4)
    · refine pk_b2 (K_X12_told h_4) (fun _ s_5 (h_6 : KV 88 4 v0 s_5) => ?_)
      refine pk_ite ?_ ?_
      · exact (K_X12_aShift_90 h_6)
      · refine pk_b2 (K_X12_told h_6) (fun _ s_7 (h_8 : KV 88 4 v0 s_7) => ?_)
        refine pk_ite ?_ ?_
        · exact (K_X12_aShift_90 h_8)
        · refine pk_b2 (K_X12_need h_8) (fun _ s_9 (h_10 : KV 88 4 v0 s_9) => ?_)
          refine pk_ite ?_ ?_
          · exact (K_X12_aShift_90 h_10)
          · exact pk_some h_10
theorem K_X12_readsRows_115 {v0 : Int32} {x1 : Int32} {s : mG} (h : KV 88 4 v0 s) : pk (F_X12_readsRows_115 x1 s) (fun τ => KV 88 4 v0 τ.2) := by
  unfold F_X12_readsRows_115
  refine pk_pp ?_
  exact pk_some h
theorem K_X12_readsRows_108 {v0 : Int32} {x1 : Int32} {y1 : Int32} {y2 : Int32} {s : mG} (h : KV 88 4 v0 s) : pk (F_X12_readsRows_108 x1 y1 y2 s) (se (fun τ => KV 88 4 v0 τ.2) (fun τ => KV 88 4 v0 τ.2)) := by
  unfold F_X12_readsRows_108
  extract_lets +onlyGivenNames s_1
  have h_2 : KV 88 4 v0 s_1 := KV_mu h (Or.inr (by decide))
  clear_value s_1
  exact pk_some h_2
theorem K_X12_readsRows_93 {v0 : Int32} {y0 : Int32} {s : mG} (h : KV 88 4 v0 s) : pk (F_X12_readsRows_93 y0 s) (se (fun τ => KV 88 4 v0 τ.2) (fun τ => KV 88 4 v0 τ.2)) := by
  unfold F_X12_readsRows_93
  refine pk_ite ?_ ?_
  · exact (K_X12_readsRows_108 h)
  · exact (K_X12_readsRows_108 h)
theorem K_X12_readsRows_65 {v0 : Int32} {y0 : Int32} {y1 : Int32} {s : mG} (h : KV 88 4 v0 s) : pk (F_X12_readsRows_65 y0 y1 s) (se (fun τ => KV 88 4 v0 τ.2) (fun τ => KV 88 4 v0 τ.2)) := by
  unfold F_X12_readsRows_65
  refine pk_ite ?_ ?_
  · refine pk_b2 (K_X12_bad h) (fun _ s_1 (h_2 : KV 88 4 v0 s_1) => ?_)
    refine pk_pp ?_
    exact pk_some h_2
  · refine pk_ite ?_ ?_
    · refine pk_b2 (K_X12_aSign h) (fun _ s_3 (h_4 : KV 88 4 v0 s_3) => ?_)
      exact (K_X12_readsRows_93 h_4)
    · refine pk_b2 (K_X12_aShift h) (fun _ s_5 (h_6 : KV 88 4 v0 s_5) => ?_)
      exact (K_X12_readsRows_93 h_6)
theorem K_X12_readsRows_37 {v0 : Int32} {y0 : Int32} {y1 : Int32} {s : mG} (h : KV 88 4 v0 s) : pk (F_X12_readsRows_37 y0 y1 s) (se (fun τ => KV 88 4 v0 τ.2) (fun τ => KV 88 4 v0 τ.2)) := by
  unfold F_X12_readsRows_37
  refine pk_ite ?_ ?_
  · refine pk_ite ?_ ?_
    · exact (K_X12_readsRows_65 h)
    · exact (K_X12_readsRows_65 h)
  · refine pk_b2 (K_X12_bad h) (fun _ s_1 (h_2 : KV 88 4 v0 s_1) => ?_)
    refine pk_pp ?_
    exact pk_some h_2
theorem K_X12_readsRows_B7 {v0 : Int32} {x1 : Int32} {s : mG} (h : KV 88 4 v0 s) : pk (F_X12_readsRows_B7 x1 s) (se (fun τ => KV 88 4 v0 τ.2) (fun τ => KV 88 4 v0 τ.2)) := by
  unfold F_X12_readsRows_B7
  refine pk_ite ?_ ?_
  · refine pk_b1r ?_
    exact (K_X12_readsRows_115 h)
  · refine pk_ite ?_ ?_
    · refine pk_b1r ?_
      exact (K_X12_readsRows_115 h)
    · refine pk_ite ?_ ?_
      · exact (K_X12_readsRows_37 h)
      · exact (K_X12_readsRows_37 h)
theorem K_X12_readsRows_L7 {v0 : Int32} {x1 : Int32} {s : mG} (h : KV 88 4 v0 s) : pk (F_X12_readsRows_L7 x1 s) (fun τ => KV 88 4 v0 τ.2) := by
  unfold F_X12_readsRows_L7
  refine pk_whl (fun v => KV 88 4 v0 v.2) h (fun v hv => ?_)
  obtain ⟨y0, y1⟩ := v
  exact K_X12_readsRows_B7 hv
theorem K_X12_readsRows {v0 : Int32} {s : mG} (h : KV 88 4 v0 s) : pk (F_X12_readsRows s) (fun τ => KV 88 4 v0 τ.2) := by
  unfold F_X12_readsRows
  extract_lets +onlyGivenNames s_1
  have h_2 : KV 88 4 v0 s_1 := KV_mu h (Or.inr (by decide))
  clear_value s_1
  exact (K_X12_readsRows_L7 h_2)
theorem K_X12_putsLaw_B107 {v0 : Int32} {x1 : Int32} {s : mG} (h : KV 88 4 v0 s) : pk (F_X12_putsLaw_B107 x1 s) (se (fun τ => KV 88 4 v0 τ.2) (fun τ => KV 88 4 v0 τ.2)) := by
  unfold F_X12_putsLaw_B107
  refine pk_ite ?_ ?_
  · exact pk_some h
  · refine pk_nn ?_
    refine pk_nn ?_
    extract_lets +onlyGivenNames s_1
    have h_2 : KV 88 4 v0 s_1 := KV_mu h (Or.inl (by decide))
    clear_value s_1
    exact pk_some h_2
theorem K_X12_putsLaw_L107 {v0 : Int32} {x1 : Int32} {s : mG} (h : KV 88 4 v0 s) : pk (F_X12_putsLaw_L107 x1 s) (fun τ => KV 88 4 v0 τ.2) := by
  unfold F_X12_putsLaw_L107
  refine pk_whl (fun v => KV 88 4 v0 v.2) h (fun v hv => ?_)
  obtain ⟨y0, y1⟩ := v
  exact K_X12_putsLaw_B107 hv
theorem K_X12_putsLaw_B13 {v0 : Int32} {x1 : Int32} {s : mG} (h : KV 88 4 v0 s) : pk (F_X12_putsLaw_B13 x1 s) (se (fun τ => KV 88 4 v0 τ.2) (fun τ => KV 88 4 v0 τ.2)) := by
  unfold F_X12_putsLaw_B13
  refine pk_ite ?_ ?_
  · refine pk_b1r ?_
    exact (K_X12_putsLaw_L107 h)
  · refine pk_nn ?_
    refine pk_nn ?_
    extract_lets +onlyGivenNames s_1
    have h_2 : KV 88 4 v0 s_1 := KV_mu h (Or.inl (by decide))
    clear_value s_1
    refine pk_nn ?_
    refine pk_nn ?_
    extract_lets +onlyGivenNames s_3
    have h_4 : KV 88 4 v0 s_3 := KV_mu h_2 (Or.inl (by decide))
    clear_value s_3
    refine pk_nn ?_
    refine pk_nn ?_
    extract_lets +onlyGivenNames s_5
    have h_6 : KV 88 4 v0 s_5 := KV_mu h_4 (Or.inl (by decide))
    clear_value s_5
    refine pk_nn ?_
    refine pk_nn ?_
    extract_lets +onlyGivenNames s_7
    have h_8 : KV 88 4 v0 s_7 := KV_mu h_6 (Or.inl (by decide))
    clear_value s_7
    exact pk_some h_8
theorem K_X12_putsLaw_L13 {v0 : Int32} {x1 : Int32} {s : mG} (h : KV 88 4 v0 s) : pk (F_X12_putsLaw_L13 x1 s) (fun τ => KV 88 4 v0 τ.2) := by
  unfold F_X12_putsLaw_L13
  refine pk_whl (fun v => KV 88 4 v0 v.2) h (fun v hv => ?_)
  obtain ⟨y0, y1⟩ := v
  exact K_X12_putsLaw_B13 hv
theorem K_X12_putsLaw {v0 : Int32} {s : mG} (h : KV 88 4 v0 s) : pk (F_X12_putsLaw s) (fun τ => KV 88 4 v0 τ.2) := by
  unfold F_X12_putsLaw
  extract_lets +onlyGivenNames s_1
  have h_2 : KV 88 4 v0 s_1 := KV_mu h (Or.inl (by decide))
  clear_value s_1
  exact (K_X12_putsLaw_L13 h_2)
theorem K_X12_putsSigns_B47 {v0 : Int32} {x1 : Int32} {s : mG} (h : KV 88 4 v0 s) : pk (F_X12_putsSigns_B47 x1 s) (se (fun τ => KV 88 4 v0 τ.2) (fun τ => KV 88 4 v0 τ.2)) := by
  unfold F_X12_putsSigns_B47
  refine pk_ite ?_ ?_
  · refine pk_b1 (K_X12_forgets h) (fun s_1 (h_2 : KV 88 4 v0 s_1) => ?_)
    exact pk_some h_2
  · refine pk_nn ?_
    extract_lets +onlyGivenNames s_3
    have h_4 : KV 88 4 v0 s_3 := KV_mu h (Or.inl (by decide))
    clear_value s_3
    exact pk_some h_4
theorem K_X12_putsSigns_L47 {v0 : Int32} {x1 : Int32} {s : mG} (h : KV 88 4 v0 s) : pk (F_X12_putsSigns_L47 x1 s) (fun τ => KV 88 4 v0 τ.2) := by
  unfold F_X12_putsSigns_L47
  refine pk_whl (fun v => KV 88 4 v0 v.2) h (fun v hv => ?_)
  obtain ⟨y0, y1⟩ := v
  exact K_X12_putsSigns_B47 hv
theorem K_X12_putsSigns_B13 {v0 : Int32} {x1 : Int32} {s : mG} (h : KV 88 4 v0 s) : pk (F_X12_putsSigns_B13 x1 s) (se (fun τ => KV 88 4 v0 τ.2) (fun τ => KV 88 4 v0 τ.2)) := by
  unfold F_X12_putsSigns_B13
  refine pk_ite ?_ ?_
  · refine pk_b1r ?_
    exact (K_X12_putsSigns_L47 h)
  · refine pk_nn ?_
    refine pk_nn ?_
    extract_lets +onlyGivenNames s_1
    have h_2 : KV 88 4 v0 s_1 := KV_mu h (Or.inl (by decide))
    clear_value s_1
    exact pk_some h_2
theorem K_X12_putsSigns_L13 {v0 : Int32} {x1 : Int32} {s : mG} (h : KV 88 4 v0 s) : pk (F_X12_putsSigns_L13 x1 s) (fun τ => KV 88 4 v0 τ.2) := by
  unfold F_X12_putsSigns_L13
  refine pk_whl (fun v => KV 88 4 v0 v.2) h (fun v hv => ?_)
  obtain ⟨y0, y1⟩ := v
  exact K_X12_putsSigns_B13 hv
theorem K_X12_putsSigns {v0 : Int32} {s : mG} (h : KV 88 4 v0 s) : pk (F_X12_putsSigns s) (fun τ => KV 88 4 v0 τ.2) := by
  unfold F_X12_putsSigns
  extract_lets +onlyGivenNames s_1
  have h_2 : KV 88 4 v0 s_1 := KV_mu h (Or.inl (by decide))
  clear_value s_1
  exact (K_X12_putsSigns_L13 h_2)
theorem K_X12_putsShifts_B13 {v0 : Int32} {x1 : Int32} {s : mG} (h : KV 88 4 v0 s) : pk (F_X12_putsShifts_B13 x1 s) (se (fun τ => KV 88 4 v0 τ.2) (fun τ => KV 88 4 v0 τ.2)) := by
  unfold F_X12_putsShifts_B13
  refine pk_ite ?_ ?_
  · refine pk_b1 (K_X12_forgets h) (fun s_1 (h_2 : KV 88 4 v0 s_1) => ?_)
    exact pk_some h_2
  · refine pk_nn ?_
    refine pk_nn ?_
    extract_lets +onlyGivenNames s_3
    have h_4 : KV 88 4 v0 s_3 := KV_mu h (Or.inl (by decide))
    clear_value s_3
    exact pk_some h_4
theorem K_X12_putsShifts_L13 {v0 : Int32} {x1 : Int32} {s : mG} (h : KV 88 4 v0 s) : pk (F_X12_putsShifts_L13 x1 s) (fun τ => KV 88 4 v0 τ.2) := by
  unfold F_X12_putsShifts_L13
  refine pk_whl (fun v => KV 88 4 v0 v.2) h (fun v hv => ?_)
  obtain ⟨y0, y1⟩ := v
  exact K_X12_putsShifts_B13 hv
theorem K_X12_putsShifts {v0 : Int32} {s : mG} (h : KV 88 4 v0 s) : pk (F_X12_putsShifts s) (fun τ => KV 88 4 v0 τ.2) := by
  unfold F_X12_putsShifts
  extract_lets +onlyGivenNames s_1
  have h_2 : KV 88 4 v0 s_1 := KV_mu h (Or.inl (by decide))
  clear_value s_1
  exact (K_X12_putsShifts_L13 h_2)
theorem K_X12_text_60 {v0 : Int32} {x1 : Int32} {y0 : Int32} {s : mG} (h : KV 88 4 v0 s) : pk (F_X12_text_60 x1 y0 s) (fun τ => KV 88 4 v0 τ.2) := by
  unfold F_X12_text_60
  extract_lets +onlyGivenNames s_1
  have h_2 : KV 88 4 v0 s_1 := KV_mu h (Or.inr (by decide))
  clear_value s_1
  refine pk_ite ?_ ?_
  · extract_lets +onlyGivenNames s_3
    have h_4 : KV 88 4 v0 s_3 := KV_mu h_2 (Or.inr (by decide))
    clear_value s_3
    extract_lets +onlyGivenNames s_5
    have h_6 : KV 88 4 v0 s_5 := KV_mu h_4 (Or.inr (by decide))
    clear_value s_5
    exact pk_some h_6
  · refine pk_ite ?_ ?_
    · refine pk_b2 (K_X12_putsLaw h_2) (fun _ s_7 (h_8 : KV 88 4 v0 s_7) => ?_)
      exact pk_some h_8
    · refine pk_ite ?_ ?_
      · refine pk_b2 (K_X12_putsSigns h_2) (fun _ s_9 (h_10 : KV 88 4 v0 s_9) => ?_)
        exact pk_some h_10
      · refine pk_b2 (K_X12_putsShifts h_2) (fun _ s_11 (h_12 : KV 88 4 v0 s_11) => ?_)
        exact pk_some h_12
theorem K_X12_text {v0 : Int32} {a1 : Int32} {s : mG} (h : KV 88 4 v0 s) : pk (F_X12_text a1 s) (fun τ => KV 88 4 v0 τ.2) := by
  unfold F_X12_text
  extract_lets +onlyGivenNames s_1
  have h_2 : KV 88 4 v0 s_1 := KV_mu h (Or.inr (by decide))
  clear_value s_1
  extract_lets +onlyGivenNames s_3
  have h_4 : KV 88 4 v0 s_3 := KV_mu h_2 (Or.inr (by decide))
  clear_value s_3
  refine pk_b1 pk_top (fun _ _ => ?_)
  refine pk_ite ?_ ?_
  · extract_lets +onlyGivenNames s_5
    have h_6 : KV 88 4 v0 s_5 := KV_mu h_4 (Or.inr (by decide))
    clear_value s_5
    exact pk_some h_6
  · extract_lets +onlyGivenNames s_7
    have h_8 : KV 88 4 v0 s_7 := KV_mu h_4 (Or.inr (by decide))
    clear_value s_7
    extract_lets +onlyGivenNames s_9
    have h_10 : KV 88 4 v0 s_9 := KV_mu h_8 (Or.inr (by decide))
    clear_value s_9
    extract_lets +onlyGivenNames s_11
    have h_12 : KV 88 4 v0 s_11 := KV_mu h_10 (Or.inr (by decide))
    clear_value s_11
    refine pk_b1 (K_X12_next0 h_12) (fun s_13 (h_14 : KV 88 4 v0 s_13) => ?_)
    refine pk_ite ?_ ?_
    · refine pk_b2 (K_X12_readsLaw h_14) (fun _ s_15 (h_16 : KV 88 4 v0 s_15) => ?_)
      exact (K_X12_text_60 h_16)
    · refine pk_b2 (K_X12_readsRows h_14) (fun _ s_17 (h_18 : KV 88 4 v0 s_17) => ?_)
      exact (K_X12_text_60 h_18)
theorem K_X12_comesTo_180 {v0 : Int32} {x1 : Int32} {x3 : Int32} {x4 : Int32} {x5 : Int32} {s : mG} (h : KV 88 4 v0 s) : pk (F_X12_comesTo_180 x1 x3 x4 x5 s) (se (fun τ => KV 88 4 v0 τ.2.2.2.2) (fun τ => KV 88 4 v0 τ.2)) := by
  unfold F_X12_comesTo_180
  exact pk_some h
theorem K_X12_comesTo_86 {v0 : Int32} {x1 : Int32} {x3 : Int32} {x4 : Int32} {x5 : Int32} {y1 : Int32} {y2 : Int32} {s : mG} (h : KV 88 4 v0 s) : pk (F_X12_comesTo_86 x1 x3 x4 x5 y1 y2 s) (se (fun τ => KV 88 4 v0 τ.2.2.2.2) (fun τ => KV 88 4 v0 τ.2)) := by
  unfold F_X12_comesTo_86
  refine pk_nn ?_
  extract_lets +onlyGivenNames s_1
  have h_2 : KV 88 4 v0 s_1 := KV_mu h (Or.inl (by decide))
  clear_value s_1
  exact (K_X12_comesTo_180 h_2)
theorem K_X12_comesTo_B6 {v0 : Int32} {x1 : Int32} {x3 : Int32} {x4 : Int32} {x5 : Int32} {s : mG} (h : KV 88 4 v0 s) : pk (F_X12_comesTo_B6 x1 x3 x4 x5 s) (se (fun τ => KV 88 4 v0 τ.2.2.2.2) (fun τ => KV 88 4 v0 τ.2)) := by
  unfold F_X12_comesTo_B6
  refine pk_ite ?_ ?_
  · exact pk_some h
  · refine pk_nn ?_
    extract_lets +onlyGivenNames v_1
    clear_value v_1
    refine pk_nn ?_
    extract_lets +onlyGivenNames v_2
    clear_value v_2
    refine pk_ite ?_ ?_
    · refine pk_ite ?_ ?_
      · refine pk_nn ?_
        refine pk_nn ?_
        refine pk_nn ?_
        extract_lets +onlyGivenNames s_3
        have h_4 : KV 88 4 v0 s_3 := KV_mu h (Or.inl (by decide))
        clear_value s_3
        exact (K_X12_comesTo_180 h_4)
      · refine pk_ite ?_ ?_
        · refine pk_nn ?_
          refine pk_nn ?_
          extract_lets +onlyGivenNames s_5
          have h_6 : KV 88 4 v0 s_5 := KV_mu h (Or.inl (by decide))
          clear_value s_5
          exact (K_X12_comesTo_180 h_6)
        · refine pk_nn ?_
          refine pk_nn ?_
          refine pk_b1 pk_top (fun _ _ => ?_)
          refine pk_nn ?_
          extract_lets +onlyGivenNames s_7
          have h_8 : KV 88 4 v0 s_7 := KV_mu h (Or.inl (by decide))
          clear_value s_7
          exact (K_X12_comesTo_180 h_8)
    · refine pk_ite ?_ ?_
      · exact (K_X12_comesTo_86 h)
      · refine pk_nn ?_
        exact (K_X12_comesTo_86 h)
theorem K_X12_comesTo_L6 {v0 : Int32} {x1 : Int32} {x3 : Int32} {x4 : Int32} {x5 : Int32} {s : mG} (h : KV 88 4 v0 s) : pk (F_X12_comesTo_L6 x1 x3 x4 x5 s) (fun τ => KV 88 4 v0 τ.2) := by
  unfold F_X12_comesTo_L6
  refine pk_whl (fun v => KV 88 4 v0 v.2.2.2.2) h (fun v hv => ?_)
  obtain ⟨y0, y1, y2, y3, y4⟩ := v
  exact K_X12_comesTo_B6 hv
theorem K_X12_comesTo {v0 : Int32} {a1 : Int32} {a2 : Int32} {a3 : Int32} {s : mG} (h : KV 88 4 v0 s) : pk (F_X12_comesTo a1 a2 a3 s) (fun τ => KV 88 4 v0 τ.2) := by
  unfold F_X12_comesTo
  exact (K_X12_comesTo_L6 h)
theorem K_X12_isSo_52 {v0 : Int32} {s : mG} (h : KV 88 4 v0 s) : pk (F_X12_isSo_52 s) (fun τ => KV 88 4 v0 τ.2) := by
  unfold F_X12_isSo_52
  exact pk_some h
theorem K_X12_isSo {v0 : Int32} {a1 : Int32} {s : mG} (h : KV 88 4 v0 s) : pk (F_X12_isSo a1 s) (fun τ => KV 88 4 v0 τ.2) := by
  unfold F_X12_isSo
  refine pk_nn ?_
  refine pk_nn ?_
  refine pk_ite ?_ ?_
  · exact (K_X12_isSo_52 h)
  · refine pk_nn ?_
    refine pk_nn ?_
    refine pk_b2 (K_X12_comesTo h) (fun _ s_1 (h_2 : KV 88 4 v0 s_1) => ?_)
    refine pk_ite ?_ ?_
    · exact (K_X12_isSo_52 h_2)
    · exact pk_some h_2
theorem K_X12_saysIn_187 {v0 : Int32} {x1 : Int32} {x2 : Int32} {x6 : Int32} {s : mG} (h : KV 88 4 v0 s) : pk (F_X12_saysIn_187 x1 x2 x6 s) (se (fun τ => KV 88 4 v0 τ.2.2.2) (fun τ => KV 88 4 v0 τ.2)) := by
  unfold F_X12_saysIn_187
  exact pk_some h
theorem K_X12_saysIn_B113 {v0 : Int32} {x1 : Int32} {x2 : Int32} {x6 : Int32} {s : mG} (h : KV 88 4 v0 s) : pk (F_X12_saysIn_B113 x1 x2 x6 s) (se (fun τ => KV 88 4 v0 τ.2.2.2) (fun τ => KV 88 4 v0 τ.2)) := by
  unfold F_X12_saysIn_B113
  refine pk_ite ?_ ?_
  · refine pk_b1 pk_top (fun _ _ => ?_)
    exact pk_some h
  · refine pk_nn ?_
    refine pk_ite ?_ ?_
    · refine pk_b2 (K_X12_isSo h) (fun _ s_1 (h_2 : KV 88 4 v0 s_1) => ?_)
      refine pk_ite ?_ ?_
      · exact (K_X12_saysIn_187 h_2)
      · refine pk_nn ?_
        refine pk_nn ?_
        refine pk_b2 (K_X12_comesTo h_2) (fun _ s_3 (h_4 : KV 88 4 v0 s_3) => ?_)
        refine pk_b1 pk_top (fun _ _ => ?_)
        refine pk_b1 pk_top (fun _ _ => ?_)
        exact pk_some h_4
    · exact (K_X12_saysIn_187 h)
theorem K_X12_saysIn_L113 {v0 : Int32} {x1 : Int32} {x2 : Int32} {x6 : Int32} {s : mG} (h : KV 88 4 v0 s) : pk (F_X12_saysIn_L113 x1 x2 x6 s) (fun τ => KV 88 4 v0 τ.2) := by
  unfold F_X12_saysIn_L113
  refine pk_whl (fun v => KV 88 4 v0 v.2.2.2) h (fun v hv => ?_)
  obtain ⟨y0, y1, y2, y3⟩ := v
  exact K_X12_saysIn_B113 hv
theorem K_X12_saysIn_100 {v0 : Int32} {x1 : Int32} {x2 : Int32} {x5 : Int32} {y1 : Int32} {y2 : Int32} {s : mG} (h : KV 88 4 v0 s) : pk (F_X12_saysIn_100 x1 x2 x5 y1 y2 s) (fun τ => KV 88 4 v0 τ.2) := by
  unfold F_X12_saysIn_100
  refine pk_nn ?_
  extract_lets +onlyGivenNames s_1
  have h_2 : KV 88 4 v0 s_1 := KV_mu h (Or.inl (by decide))
  clear_value s_1
  extract_lets +onlyGivenNames s_3
  have h_4 : KV 88 4 v0 s_3 := KV_mu h_2 (Or.inl (by decide))
  clear_value s_3
  exact (K_X12_saysIn_L113 h_4)
theorem K_X12_saysIn {v0 : Int32} {a1 : Int32} {a2 : Int32} {a3 : Int32} {a4 : Int32} {a5 : Int32} {s : mG} (h : KV 88 4 v0 s) : pk (F_X12_saysIn a1 a2 a3 a4 a5 s) (fun τ => KV 88 4 v0 τ.2) := by
  unfold F_X12_saysIn
  extract_lets +onlyGivenNames s_1
  have h_2 : KV 88 4 v0 s_1 := KV_mu h (Or.inl (by decide))
  clear_value s_1
  refine pk_nn ?_
  extract_lets +onlyGivenNames s_3
  have h_4 : KV 88 4 v0 s_3 := KV_mu h_2 (Or.inl (by decide))
  clear_value s_3
  refine pk_nn ?_
  extract_lets +onlyGivenNames s_5
  have h_6 : KV 88 4 v0 s_5 := KV_mu h_4 (Or.inl (by decide))
  clear_value s_5
  extract_lets +onlyGivenNames s_7
  have h_8 : KV 88 4 v0 s_7 := KV_mu h_6 (Or.inl (by decide))
  clear_value s_7
  extract_lets +onlyGivenNames s_9
  have h_10 : KV 88 4 v0 s_9 := KV_mu h_8 (Or.inl (by decide))
  clear_value s_9
  extract_lets +onlyGivenNames s_11
  have h_12 : KV 88 4 v0 s_11 := KV_mu h_10 (Or.inl (by decide))
  clear_value s_11
  extract_lets +onlyGivenNames s_13
  have h_14 : KV 88 4 v0 s_13 := KV_mu h_12 (Or.inl (by decide))
  clear_value s_13
  refine pk_b1 pk_top (fun _ _ => ?_)
  refine pk_ite ?_ ?_
  · exact (K_X12_saysIn_100 h_14)
  · exact (K_X12_saysIn_100 h_14)
theorem K_X12_saysNow {v0 : Int32} {a1 : Int32} {a2 : Int32} {s : mG} (h : KV 88 4 v0 s) : pk (F_X12_saysNow a1 a2 s) (fun τ => KV 88 4 v0 τ.2) := by
  unfold F_X12_saysNow
  refine pk_nn ?_
  refine pk_b2 (K_X12_saysIn h) (fun _ s_1 (h_2 : KV 88 4 v0 s_1) => ?_)
  exact pk_some h_2
theorem K_X12_keeps_B51 {v0 : Int32} {x1 : Int32} {s : mG} (h : KV 88 4 v0 s) : pk (F_X12_keeps_B51 x1 s) (se (fun τ => KV 88 4 v0 τ.2) (fun τ => KV 88 4 v0 τ)) := by
  unfold F_X12_keeps_B51
  refine pk_ite ?_ ?_
  · extract_lets +onlyGivenNames s_1
    have h_2 : KV 88 4 v0 s_1 := KV_mu h (Or.inr (by decide))
    clear_value s_1
    exact pk_some h_2
  · refine pk_nn ?_
    refine pk_nn ?_
    extract_lets +onlyGivenNames s_3
    have h_4 : KV 88 4 v0 s_3 := KV_mu h (Or.inl (by decide))
    clear_value s_3
    exact pk_some h_4
theorem K_X12_keeps_L51 {v0 : Int32} {x1 : Int32} {s : mG} (h : KV 88 4 v0 s) : pk (F_X12_keeps_L51 x1 s) (fun τ => KV 88 4 v0 τ) := by
  unfold F_X12_keeps_L51
  refine pk_whl (fun v => KV 88 4 v0 v.2) h (fun v hv => ?_)
  obtain ⟨y0, y1⟩ := v
  exact K_X12_keeps_B51 hv
theorem K_X12_keeps_49 {v0 : Int32} {s : mG} (h : KV 88 4 v0 s) : pk (F_X12_keeps_49 s) (fun τ => KV 88 4 v0 τ) := by
  unfold F_X12_keeps_49
  exact (K_X12_keeps_L51 h)
theorem K_X12_keeps_B11 {v0 : Int32} {x1 : Int32} {s : mG} (h : KV 88 4 v0 s) : pk (F_X12_keeps_B11 x1 s) (se (fun τ => KV 88 4 v0 τ.2) (fun τ => KV 88 4 v0 τ)) := by
  unfold F_X12_keeps_B11
  refine pk_ite ?_ ?_
  · extract_lets +onlyGivenNames s_1
    have h_2 : KV 88 4 v0 s_1 := KV_mu h (Or.inr (by decide))
    clear_value s_1
    refine pk_b1r ?_
    exact (K_X12_keeps_49 h_2)
  · refine pk_nn ?_
    refine pk_nn ?_
    extract_lets +onlyGivenNames s_3
    have h_4 : KV 88 4 v0 s_3 := KV_mu h (Or.inl (by decide))
    clear_value s_3
    exact pk_some h_4
theorem K_X12_keeps_L11 {v0 : Int32} {x1 : Int32} {s : mG} (h : KV 88 4 v0 s) : pk (F_X12_keeps_L11 x1 s) (fun τ => KV 88 4 v0 τ) := by
  unfold F_X12_keeps_L11
  refine pk_whl (fun v => KV 88 4 v0 v.2) h (fun v hv => ?_)
  obtain ⟨y0, y1⟩ := v
  exact K_X12_keeps_B11 hv
theorem K_X12_keeps {v0 : Int32} {s : mG} (h : KV 88 4 v0 s) : pk (F_X12_keeps s) (fun τ => KV 88 4 v0 τ) := by
  unfold F_X12_keeps
  refine pk_ite ?_ ?_
  · exact (K_X12_keeps_L11 h)
  · exact (K_X12_keeps_49 h)
theorem K_X12_undo_B21 {v0 : Int32} {x1 : Int32} {s : mG} (h : KV 88 4 v0 s) : pk (F_X12_undo_B21 x1 s) (se (fun τ => KV 88 4 v0 τ.2) (fun τ => KV 88 4 v0 τ.2)) := by
  unfold F_X12_undo_B21
  refine pk_ite ?_ ?_
  · exact pk_some h
  · refine pk_nn ?_
    refine pk_nn ?_
    extract_lets +onlyGivenNames s_1
    have h_2 : KV 88 4 v0 s_1 := KV_mu h (Or.inl (by decide))
    clear_value s_1
    exact pk_some h_2
theorem K_X12_undo_L21 {v0 : Int32} {x1 : Int32} {s : mG} (h : KV 88 4 v0 s) : pk (F_X12_undo_L21 x1 s) (fun τ => KV 88 4 v0 τ.2) := by
  unfold F_X12_undo_L21
  refine pk_whl (fun v => KV 88 4 v0 v.2) h (fun v hv => ?_)
  obtain ⟨y0, y1⟩ := v
  exact K_X12_undo_B21 hv
theorem K_X12_undo {v0 : Int32} {s : mG} (h : KV 88 4 v0 s) : pk (F_X12_undo s) (fun τ => KV 88 4 v0 τ.2) := by
  unfold F_X12_undo
  refine pk_ite ?_ ?_
  · exact pk_some h
  · extract_lets +onlyGivenNames s_1
    have h_2 : KV 88 4 v0 s_1 := KV_mu h (Or.inr (by decide))
    clear_value s_1
    exact (K_X12_undo_L21 h_2)
theorem K_X12_notes {v0 : Int32} {a1 : Int32} {a2 : Int32} {a3 : Int32} {a4 : Int32} {s : mG} (h : KV 88 4 v0 s) : pk (F_X12_notes a1 a2 a3 a4 s) (fun τ => KV 88 4 v0 τ) := by
  unfold F_X12_notes
  refine pk_ite ?_ ?_
  · exact pk_some h
  · extract_lets +onlyGivenNames v_1
    clear_value v_1
    refine pk_nn ?_
    extract_lets +onlyGivenNames s_2
    have h_3 : KV 88 4 v0 s_2 := KV_mu h (Or.inl (by decide))
    clear_value s_2
    refine pk_nn ?_
    extract_lets +onlyGivenNames s_4
    have h_5 : KV 88 4 v0 s_4 := KV_mu h_3 (Or.inl (by decide))
    clear_value s_4
    refine pk_nn ?_
    extract_lets +onlyGivenNames s_6
    have h_7 : KV 88 4 v0 s_6 := KV_mu h_5 (Or.inl (by decide))
    clear_value s_6
    refine pk_nn ?_
    extract_lets +onlyGivenNames s_8
    have h_9 : KV 88 4 v0 s_8 := KV_mu h_7 (Or.inl (by decide))
    clear_value s_8
    refine pk_nn ?_
    extract_lets +onlyGivenNames s_10
    have h_11 : KV 88 4 v0 s_10 := KV_mu h_9 (Or.inl (by decide))
    clear_value s_10
    extract_lets +onlyGivenNames s_12
    have h_13 : KV 88 4 v0 s_12 := KV_mu h_11 (Or.inl (by decide))
    clear_value s_12
    exact pk_some h_13
end
