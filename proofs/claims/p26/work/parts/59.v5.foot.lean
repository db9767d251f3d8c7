noncomputable section
theorem W_X12_stands_26 {M : Nat} {z : mG} {s : mG} (hM : sub 0 M) (h : KB M z s) : pk (F_X12_stands_26 s) (fun τ => KB M z τ.2) := by
  unfold F_X12_stands_26
  exact pk_some h
theorem W_X12_stands_223 {M : Nat} {z : mG} {x1 : Int32} {x2 : Int32} {x3 : Int32} {x4 : Int32} {s : mG} (hM : sub 0 M) (h : KB M z s) : pk (F_X12_stands_223 x1 x2 x3 x4 s) (se (fun τ => KB M z τ.2.2.2.2) (fun τ => KB M z τ.2)) := by
  unfold F_X12_stands_223
  exact pk_some h
theorem W_X12_stands_219 {M : Nat} {z : mG} {x1 : Int32} {x2 : Int32} {x3 : Int32} {x4 : Int32} {s : mG} (hM : sub 0 M) (h : KB M z s) : pk (F_X12_stands_219 x1 x2 x3 x4 s) (se (fun τ => KB M z τ.2.2.2.2) (fun τ => KB M z τ.2)) := by
  unfold F_X12_stands_219
  exact (W_X12_stands_223 (sub_tr (by decide +kernel) hM) h)
theorem W_X12_stands_B161 {M : Nat} {z : mG} {x1 : Int32} {x2 : Int32} {x3 : Int32} {x4 : Int32} {s : mG} (hM : sub 0 M) (h : KB M z s) : pk (F_X12_stands_B161 x1 x2 x3 x4 s) (se (fun τ => KB M z τ.2.2.2.2) (fun τ => KB M z τ.2)) := by
  unfold F_X12_stands_B161
  refine pk_ite ?_ ?_
  · exact pk_some h
  · refine pk_nn ?_
    extract_lets +onlyGivenNames v_1
    clear_value v_1
    refine pk_nn ?_
    extract_lets +onlyGivenNames v_2
    clear_value v_2
    refine pk_ite ?_ ?_
    · exact (W_X12_stands_219 (sub_tr (by decide +kernel) hM) h)
    · refine pk_ite ?_ ?_
      · refine pk_ite ?_ ?_
        · exact (W_X12_stands_219 (sub_tr (by decide +kernel) hM) h)
        · exact (W_X12_stands_223 (sub_tr (by decide +kernel) hM) h)
      · exact (W_X12_stands_223 (sub_tr (by decide +kernel) hM) h)
theorem W_X12_stands_L161 {M : Nat} {z : mG} {x1 : Int32} {x2 : Int32} {x3 : Int32} {x4 : Int32} {s : mG} (hM : sub 0 M) (h : KB M z s) : pk (F_X12_stands_L161 x1 x2 x3 x4 s) (fun τ => KB M z τ.2) := by
  unfold F_X12_stands_L161
  refine pk_whl (fun v => KB M z v.2.2.2.2) h (fun v hv => ?_)
  obtain ⟨y0, y1, y2, y3, y4⟩ := v
  exact W_X12_stands_B161 (sub_tr (by decide +kernel) hM) hv
theorem W_X12_stands_157 {M : Nat} {z : mG} {x1 : Int32} {x2 : Int32} {y0 : Int32} {s : mG} (hM : sub 0 M) (h : KB M z s) : pk (F_X12_stands_157 x1 x2 y0 s) (fun τ => KB M z τ.2) := by
  unfold F_X12_stands_157
  exact (W_X12_stands_L161 (sub_tr (by decide +kernel) hM) h)
theorem W_X12_stands_103 {M : Nat} {z : mG} {x1 : Int32} {x2 : Int32} {x3 : Int32} {x4 : Int32} {y1 : Int32} {y2 : Int32} {y3 : Int32} {s : mG} (hM : sub 20282409603651670423947251286016 M) (h : KB M z s) : pk (F_X12_stands_103 x1 x2 x3 x4 y1 y2 y3 s) (se (fun τ => KB M z τ.2.2.2.2) (se (fun τ => KB M z τ.2.2.2) (fun τ => KB M z τ.2))) := by
  unfold F_X12_stands_103
  refine pk_nn ?_
  extract_lets +onlyGivenNames s_1
  have h_2 : KB M z s_1 := KB_mu h (hM 104 (by decide +kernel))
  clear_value s_1
  exact pk_some h_2
theorem W_X12_stands_B58 {M : Nat} {z : mG} {x1 : Int32} {x2 : Int32} {x3 : Int32} {x4 : Int32} {s : mG} (hM : sub 20282409603651670423947251286016 M) (h : KB M z s) : pk (F_X12_stands_B58 x1 x2 x3 x4 s) (se (fun τ => KB M z τ.2.2.2.2) (se (fun τ => KB M z τ.2.2.2) (fun τ => KB M z τ.2))) := by
  unfold F_X12_stands_B58
  refine pk_ite ?_ ?_
  · exact pk_some h
  · refine pk_nn ?_
    refine pk_ite ?_ ?_
    · exact (W_X12_stands_103 (sub_tr (by decide +kernel) hM) h)
    · refine pk_b1 pk_top (fun _ _ => ?_)
      exact (W_X12_stands_103 (sub_tr (by decide +kernel) hM) h)
theorem W_X12_stands_L58 {M : Nat} {z : mG} {x1 : Int32} {x2 : Int32} {x3 : Int32} {x4 : Int32} {s : mG} (hM : sub 20282409603651670423947251286016 M) (h : KB M z s) : pk (F_X12_stands_L58 x1 x2 x3 x4 s) (se (fun τ => KB M z τ.2.2.2) (fun τ => KB M z τ.2)) := by
  unfold F_X12_stands_L58
  refine pk_whl (fun v => KB M z v.2.2.2.2) h (fun v hv => ?_)
  obtain ⟨y0, y1, y2, y3, y4⟩ := v
  exact W_X12_stands_B58 (sub_tr (by decide +kernel) hM) hv
theorem W_X12_stands_B51 {M : Nat} {z : mG} {x1 : Int32} {x2 : Int32} {x3 : Int32} {s : mG} (hM : sub 20282409603651670423947251286016 M) (h : KB M z s) : pk (F_X12_stands_B51 x1 x2 x3 s) (se (fun τ => KB M z τ.2.2.2) (fun τ => KB M z τ.2)) := by
  unfold F_X12_stands_B51
  refine pk_ite ?_ ?_
  · refine pk_ite ?_ ?_
    · refine pk_b1 pk_top (fun _ _ => ?_)
      exact pk_some h
    · refine pk_ite ?_ ?_
      · refine pk_b1r ?_
        exact (W_X12_stands_157 (sub_tr (by decide +kernel) hM) h)
      · refine pk_b1r ?_
        exact (W_X12_stands_157 (sub_tr (by decide +kernel) hM) h)
  · exact (W_X12_stands_L58 (sub_tr (by decide +kernel) hM) h)
theorem W_X12_stands_L51 {M : Nat} {z : mG} {x1 : Int32} {x2 : Int32} {x3 : Int32} {s : mG} (hM : sub 20282409603651670423947251286016 M) (h : KB M z s) : pk (F_X12_stands_L51 x1 x2 x3 s) (fun τ => KB M z τ.2) := by
  unfold F_X12_stands_L51
  refine pk_whl (fun v => KB M z v.2.2.2) h (fun v hv => ?_)
  obtain ⟨y0, y1, y2, y3⟩ := v
  exact W_X12_stands_B51 (sub_tr (by decide +kernel) hM) hv
theorem W_X12_stands_28 {M : Nat} {z : mG} {x1 : Int32} {x2 : Int32} {s : mG} (hM : sub 30661298893020298648701508780032 M) (h : KB M z s) : pk (F_X12_stands_28 x1 x2 s) (fun τ => KB M z τ.2) := by
  unfold F_X12_stands_28
  refine pk_b1 (W_X12_laysDoors (sub_tr (by decide +kernel) hM) h) (fun s_1 (h_2 : KB M z s_1) => ?_)
  extract_lets +onlyGivenNames s_3
  have h_4 : KB M z s_3 := KB_mu h_2 (hM 104 (by decide +kernel))
  clear_value s_3
  extract_lets +onlyGivenNames s_5
  have h_6 : KB M z s_5 := KB_mu h_4 (hM 104 (by decide +kernel))
  clear_value s_5
  exact (W_X12_stands_L51 (sub_tr (by decide +kernel) hM) h_6)
theorem W_X12_stands {M : Nat} {z : mG} {a1 : Int32} {a2 : Int32} {s : mG} (hM : sub 30661298893020298648701508780032 M) (h : KB M z s) : pk (F_X12_stands a1 a2 s) (fun τ => KB M z τ.2) := by
  unfold F_X12_stands
  refine pk_b1 pk_top (fun _ _ => ?_)
  refine pk_ite ?_ ?_
  · exact (W_X12_stands_26 (sub_tr (by decide +kernel) hM) h)
  · refine pk_ite ?_ ?_
    · exact (W_X12_stands_28 (sub_tr (by decide +kernel) hM) h)
    · refine pk_b1 pk_top (fun _ _ => ?_)
      refine pk_ite ?_ ?_
      · exact (W_X12_stands_26 (sub_tr (by decide +kernel) hM) h)
      · exact (W_X12_stands_28 (sub_tr (by decide +kernel) hM) h)
theorem W_X12_carries_39 {M : Nat} {z : mG} {x1 : Int32} {x2 : Int32} {s : mG} (hM : sub 0 M) (h : KB M z s) : pk (F_X12_carries_39 x1 x2 s) (se (fun τ => KB M z τ.2.2) (fun τ => KB M z τ.2)) := by
  unfold F_X12_carries_39
  exact pk_some h
theorem W_X12_carries_37 {M : Nat} {z : mG} {x2 : Int32} {s : mG} (hM : sub 0 M) (h : KB M z s) : pk (F_X12_carries_37 x2 s) (se (fun τ => KB M z τ.2.2) (fun τ => KB M z τ.2)) := by
  unfold F_X12_carries_37
  exact (W_X12_carries_39 (sub_tr (by decide +kernel) hM) h)
theorem W_X12_carries_B4 {M : Nat} {z : mG} {x1 : Int32} {x2 : Int32} {s : mG} (hM : sub 237684487542793012780631851008 M) (h : KB M z s) : pk (F_X12_carries_B4 x1 x2 s) (se (fun τ => KB M z τ.2.2) (fun τ => KB M z τ.2)) := by
  unfold F_X12_carries_B4
  refine pk_ite ?_ ?_
  · exact pk_some h
  · refine pk_ite ?_ ?_
    · exact (W_X12_carries_37 (sub_tr (by decide +kernel) hM) h)
    · refine pk_b2 (W_X12_saysNow (sub_tr (by decide +kernel) hM) h) (fun _ s_1 (h_2 : KB M z s_1) => ?_)
      refine pk_b2 (W_X12_saysNow (sub_tr (by decide +kernel) hM) h_2) (fun _ s_3 (h_4 : KB M z s_3) => ?_)
      refine pk_ite ?_ ?_
      · exact (W_X12_carries_39 (sub_tr (by decide +kernel) hM) h_4)
      · exact (W_X12_carries_37 (sub_tr (by decide +kernel) hM) h_4)
theorem W_X12_carries_L4 {M : Nat} {z : mG} {x1 : Int32} {x2 : Int32} {s : mG} (hM : sub 237684487542793012780631851008 M) (h : KB M z s) : pk (F_X12_carries_L4 x1 x2 s) (fun τ => KB M z τ.2) := by
  unfold F_X12_carries_L4
  refine pk_whl (fun v => KB M z v.2.2) h (fun v hv => ?_)
  obtain ⟨y0, y1, y2⟩ := v
  exact W_X12_carries_B4 (sub_tr (by decide +kernel) hM) hv
theorem W_X12_carries {M : Nat} {z : mG} {s : mG} (hM : sub 237684487542793012780631851008 M) (h : KB M z s) : pk (F_X12_carries s) (fun τ => KB M z τ.2) := by
  unfold F_X12_carries
  exact (W_X12_carries_L4 (sub_tr (by decide +kernel) hM) h)
theorem W_X12_away_29 {M : Nat} {z : mG} {s : mG} (hM : sub 0 M) (h : KB M z s) : pk (F_X12_away_29 s) (fun τ => KB M z τ.2) := by
  unfold F_X12_away_29
  exact pk_some h
theorem W_X12_away_B38 {M : Nat} {z : mG} {x1 : Int32} {x2 : Int32} {x3 : Int32} {x4 : Int32} {s : mG} (hM : sub 237684487542793012780631851008 M) (h : KB M z s) : pk (F_X12_away_B38 x1 x2 x3 x4 s) (se (fun τ => KB M z τ.2.2.2.2) (fun τ => KB M z τ.2)) := by
  unfold F_X12_away_B38
  refine pk_ite ?_ ?_
  · exact pk_some h
  · refine pk_nn ?_
    refine pk_b1 pk_top (fun _ _ => ?_)
    refine pk_b2 (W_X12_saysIn (sub_tr (by decide +kernel) hM) h) (fun _ s_1 (h_2 : KB M z s_1) => ?_)
    extract_lets +onlyGivenNames v_3
    clear_value v_3
    exact pk_some h_2
theorem W_X12_away_L38 {M : Nat} {z : mG} {x1 : Int32} {x2 : Int32} {x3 : Int32} {x4 : Int32} {s : mG} (hM : sub 237684487542793012780631851008 M) (h : KB M z s) : pk (F_X12_away_L38 x1 x2 x3 x4 s) (fun τ => KB M z τ.2) := by
  unfold F_X12_away_L38
  refine pk_whl (fun v => KB M z v.2.2.2.2) h (fun v hv => ?_)
  obtain ⟨y0, y1, y2, y3, y4⟩ := v
  exact W_X12_away_B38 (sub_tr (by decide +kernel) hM) hv
theorem W_X12_away {M : Nat} {z : mG} {a1 : Int32} {a2 : Int32} {s : mG} (hM : sub 237684487542793012780631851008 M) (h : KB M z s) : pk (F_X12_away a1 a2 s) (fun τ => KB M z τ.2) := by
  unfold F_X12_away
  refine pk_b1 pk_top (fun _ _ => ?_)
  refine pk_ite ?_ ?_
  · exact (W_X12_away_29 (sub_tr (by decide +kernel) hM) h)
  · refine pk_nn ?_
    refine pk_ite ?_ ?_
    · exact (W_X12_away_29 (sub_tr (by decide +kernel) hM) h)
    · refine pk_b1 pk_top (fun _ _ => ?_)
      refine pk_ite ?_ ?_
      · exact (W_X12_away_29 (sub_tr (by decide +kernel) hM) h)
      · exact (W_X12_away_L38 (sub_tr (by decide +kernel) hM) h)
theorem W_X12_of {M : Nat} {z : mG} {a1 : Int32} {a2 : Int32} {s : mG} (hM : sub 237684487542793012780631851008 M) (h : KB M z s) : pk (F_X12_of a1 a2 s) (fun τ => KB M z τ.2) := by
  unfold F_X12_of
  refine pk_b1 pk_top (fun _ _ => ?_)
  refine pk_ite ?_ ?_
  · exact pk_some h
  · refine pk_ite ?_ ?_
    · refine pk_nn ?_
      extract_lets +onlyGivenNames v_1
      clear_value v_1
      exact pk_some h
    · refine pk_ite ?_ ?_
      · refine pk_nn ?_
        extract_lets +onlyGivenNames v_2
        clear_value v_2
        exact pk_some h
      · refine pk_ite ?_ ?_
        · refine pk_nn ?_
          extract_lets +onlyGivenNames v_3
          clear_value v_3
          exact pk_some h
        · refine pk_ite ?_ ?_
          · refine pk_nn ?_
            extract_lets +onlyGivenNames v_4
            clear_value v_4
            exact pk_some h
          · refine pk_ite ?_ ?_
            · refine pk_nn ?_
              extract_lets +onlyGivenNames v_5
              clear_value v_5
              exact pk_some h
            · refine pk_ite ?_ ?_
              · refine pk_b2 (W_X12_sureOf (sub_tr (by decide +kernel) hM) h) (fun _ s_6 (h_7 : KB M z s_6) => ?_)
                exact pk_some h_7
              · refine pk_b1 pk_top (fun _ _ => ?_)
                refine pk_ite ?_ ?_
                · exact pk_some h
                · refine pk_b2 (W_X12_saysNow (sub_tr (by decide +kernel) hM) h) (fun _ s_8 (h_9 : KB M z s_8) => ?_)
                  exact pk_some h_9
theorem W_X12_image_67 {M : Nat} {z : mG} {s : mG} (hM : sub 309485009821345068724781056 M) (h : KB M z s) : pk (F_X12_image_67 s) (fun τ => KB M z τ.2) := by
  unfold F_X12_image_67
  extract_lets +onlyGivenNames s_1
  have h_2 : KB M z s_1 := KB_mu h (hM 88 (by decide +kernel))
  clear_value s_1
  exact pk_some h_2
theorem W_X12_image_53 {M : Nat} {z : mG} {x1 : Int32} {x2 : Int32} {s : mG} (hM : sub 0 M) (h : KB M z s) : pk (F_X12_image_53 x1 x2 s) (se (fun τ => KB M z τ.2.2) (fun τ => KB M z τ.2)) := by
  unfold F_X12_image_53
  exact pk_some h
theorem W_X12_image_B15 {M : Nat} {z : mG} {x1 : Int32} {x2 : Int32} {s : mG} (hM : sub 2166395068749415481073467392 M) (h : KB M z s) : pk (F_X12_image_B15 x1 x2 s) (se (fun τ => KB M z τ.2.2) (fun τ => KB M z τ.2)) := by
  unfold F_X12_image_B15
  refine pk_ite ?_ ?_
  · refine pk_ite ?_ ?_
    · refine pk_b1 (W_X12_forgets (sub_tr (by decide +kernel) hM) h) (fun s_1 (h_2 : KB M z s_1) => ?_)
      refine pk_b1r ?_
      exact (W_X12_image_67 (sub_tr (by decide +kernel) hM) h_2)
    · refine pk_b1r ?_
      exact (W_X12_image_67 (sub_tr (by decide +kernel) hM) h)
  · refine pk_ite ?_ ?_
    · refine pk_nn ?_
      refine pk_nn ?_
      extract_lets +onlyGivenNames s_3
      have h_4 : KB M z s_3 := KB_mu h (hM 89 (by decide +kernel))
      clear_value s_3
      exact (W_X12_image_53 (sub_tr (by decide +kernel) hM) h_4)
    · refine pk_nn ?_
      refine pk_nn ?_
      extract_lets +onlyGivenNames s_5
      have h_6 : KB M z s_5 := KB_mu h (hM 90 (by decide +kernel))
      clear_value s_5
      exact (W_X12_image_53 (sub_tr (by decide +kernel) hM) h_6)
theorem W_X12_image_L15 {M : Nat} {z : mG} {x1 : Int32} {x2 : Int32} {s : mG} (hM : sub 2166395068749415481073467392 M) (h : KB M z s) : pk (F_X12_image_L15 x1 x2 s) (fun τ => KB M z τ.2) := by
  unfold F_X12_image_L15
  refine pk_whl (fun v => KB M z v.2.2) h (fun v hv => ?_)
  obtain ⟨y0, y1, y2⟩ := v
  exact W_X12_image_B15 (sub_tr (by decide +kernel) hM) hv
theorem W_X12_image_13 {M : Nat} {z : mG} {x1 : Int32} {s : mG} (hM : sub 2166395068749415481073467392 M) (h : KB M z s) : pk (F_X12_image_13 x1 s) (fun τ => KB M z τ.2) := by
  unfold F_X12_image_13
  exact (W_X12_image_L15 (sub_tr (by decide +kernel) hM) h)
theorem W_X12_image {M : Nat} {z : mG} {a1 : Int32} {s : mG} (hM : sub 2166395068749415481073467392 M) (h : KB M z s) : pk (F_X12_image a1 s) (fun τ => KB M z τ.2) := by
  unfold F_X12_image
  refine pk_ite ?_ ?_
  · refine pk_ite ?_ ?_
    · exact pk_some h
    · exact (W_X12_image_13 (sub_tr (by decide +kernel) hM) h)
  · exact (W_X12_image_13 (sub_tr (by decide +kernel) hM) h)
end
