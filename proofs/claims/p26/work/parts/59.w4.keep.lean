noncomputable section
theorem K_X12_fire {v0 : Int32} {a1 : Int32} {a2 : Int32} {s : mG} (h : KV 88 4 v0 s) : pk (F_X12_fire a1 a2 s) (fun τ => KV 88 4 v0 τ.2) := by
  unfold F_X12_fire
  refine pk_b1 pk_top (fun _ _ => ?_)
  refine pk_ite ?_ ?_
  · exact (K_X12_fire_30 h)
  · refine pk_b1 pk_top (fun _ _ => ?_)
    refine pk_ite ?_ ?_
    · refine pk_b1 pk_top (fun _ _ => ?_)
      refine pk_ite ?_ ?_
      · exact (K_X12_fire_30 h)
      · exact (K_X12_fire_32 h)
    · exact (K_X12_fire_32 h)
theorem K_X12_laysDoors_161 {v0 : Int32} {x1 : Int32} {x2 : Int32} {x3 : Int32} {s : mG} (h : KV 88 4 v0 s) : pk (F_X12_laysDoors_161 x1 x2 x3 s) (se (fun τ => KV 88 4 v0 τ.2.2.2) (se (fun τ => KV 88 4 v0 τ.2) (fun τ => KV 88 4 v0 τ))) := by
  unfold F_X12_laysDoors_161
  exact pk_some h
theorem K_X12_laysDoors_B45 {v0 : Int32} {x1 : Int32} {x2 : Int32} {x3 : Int32} {s : mG} (h : KV 88 4 v0 s) : pk (F_X12_laysDoors_B45 x1 x2 x3 s) (se (fun τ => KV 88 4 v0 τ.2.2.2) (se (fun τ => KV 88 4 v0 τ.2) (fun τ => KV 88 4 v0 τ))) := by
  unfold F_X12_laysDoors_B45
  refine pk_ite ?_ ?_
  · exact pk_some h
  · refine pk_nn ?_
    refine pk_ite ?_ ?_
    · exact (K_X12_laysDoors_161 h)
    · refine pk_nn ?_
      refine pk_b2 (K_X12_saysIn h) (fun _ s_1 (h_2 : KV 88 4 v0 s_1) => ?_)
      refine pk_nn ?_
      refine pk_b2 (K_X12_saysIn h_2) (fun _ s_3 (h_4 : KV 88 4 v0 s_3) => ?_)
      extract_lets +onlyGivenNames v_5
      clear_value v_5
      refine pk_nn ?_
      refine pk_nn ?_
      extract_lets +onlyGivenNames s_6
      have h_7 : KV 88 4 v0 s_6 := KV_mu h_4 (Or.inl (by decide))
      clear_value s_6
      extract_lets +onlyGivenNames v_8
      clear_value v_8
      refine pk_nn ?_
      refine pk_nn ?_
      extract_lets +onlyGivenNames s_9
      have h_10 : KV 88 4 v0 s_9 := KV_mu h_7 (Or.inl (by decide))
      clear_value s_9
      exact (K_X12_laysDoors_161 h_10)
theorem K_X12_laysDoors_L45 {v0 : Int32} {x1 : Int32} {x2 : Int32} {x3 : Int32} {s : mG} (h : KV 88 4 v0 s) : pk (F_X12_laysDoors_L45 x1 x2 x3 s) (se (fun τ => KV 88 4 v0 τ.2) (fun τ => KV 88 4 v0 τ)) := by
  unfold F_X12_laysDoors_L45
  refine pk_whl (fun v => KV 88 4 v0 v.2.2.2) h (fun v hv => ?_)
  obtain ⟨y0, y1, y2, y3⟩ := v
  exact K_X12_laysDoors_B45 hv
theorem K_X12_laysDoors_B2 {v0 : Int32} {x1 : Int32} {s : mG} (h : KV 88 4 v0 s) : pk (F_X12_laysDoors_B2 x1 s) (se (fun τ => KV 88 4 v0 τ.2) (fun τ => KV 88 4 v0 τ)) := by
  unfold F_X12_laysDoors_B2
  refine pk_ite ?_ ?_
  · exact pk_some h
  · refine pk_nn ?_
    extract_lets +onlyGivenNames s_1
    have h_2 : KV 88 4 v0 s_1 := KV_mu h (Or.inl (by decide))
    clear_value s_1
    refine pk_nn ?_
    extract_lets +onlyGivenNames s_3
    have h_4 : KV 88 4 v0 s_3 := KV_mu h_2 (Or.inl (by decide))
    clear_value s_3
    extract_lets +onlyGivenNames v_5
    clear_value v_5
    exact (K_X12_laysDoors_L45 h_4)
theorem K_X12_laysDoors_L2 {v0 : Int32} {x1 : Int32} {s : mG} (h : KV 88 4 v0 s) : pk (F_X12_laysDoors_L2 x1 s) (fun τ => KV 88 4 v0 τ) := by
  unfold F_X12_laysDoors_L2
  refine pk_whl (fun v => KV 88 4 v0 v.2) h (fun v hv => ?_)
  obtain ⟨y0, y1⟩ := v
  exact K_X12_laysDoors_B2 hv
theorem K_X12_laysDoors {v0 : Int32} {s : mG} (h : KV 88 4 v0 s) : pk (F_X12_laysDoors s) (fun τ => KV 88 4 v0 τ) := by
  unfold F_X12_laysDoors
  exact (K_X12_laysDoors_L2 h)
theorem K_X12_stands_26 {v0 : Int32} {s : mG} (h : KV 88 4 v0 s) : pk (F_X12_stands_26 s) (fun τ => KV 88 4 v0 τ.2) := by
  unfold F_X12_stands_26
  exact pk_some h
theorem K_X12_stands_223 {v0 : Int32} {x1 : Int32} {x2 : Int32} {x3 : Int32} {x4 : Int32} {s : mG} (h : KV 88 4 v0 s) : pk (F_X12_stands_223 x1 x2 x3 x4 s) (se (fun τ => KV 88 4 v0 τ.2.2.2.2) (fun τ => KV 88 4 v0 τ.2)) := by
  unfold F_X12_stands_223
  exact pk_some h
theorem K_X12_stands_219 {v0 : Int32} {x1 : Int32} {x2 : Int32} {x3 : Int32} {x4 : Int32} {s : mG} (h : KV 88 4 v0 s) : pk (F_X12_stands_219 x1 x2 x3 x4 s) (se (fun τ => KV 88 4 v0 τ.2.2.2.2) (fun τ => KV 88 4 v0 τ.2)) := by
  unfold F_X12_stands_219
  exact (K_X12_stands_223 h)
theorem K_X12_stands_B161 {v0 : Int32} {x1 : Int32} {x2 : Int32} {x3 : Int32} {x4 : Int32} {s : mG} (h : KV 88 4 v0 s) : pk (F_X12_stands_B161 x1 x2 x3 x4 s) (se (fun τ => KV 88 4 v0 τ.2.2.2.2) (fun τ => KV 88 4 v0 τ.2)) := by
  unfold F_X12_stands_B161
  refine pk_ite ?_ ?_
  · exact pk_some h
  · refine pk_nn ?_
    extract_lets +onlyGivenNames v_1
    clear_value v_1
    refine pk_nn ?_
    extract_lets +onlyGivenNames v_2
    clear_value v_2
    refine pk_ite ?_ ?_
    · exact (K_X12_stands_219 h)
    · refine pk_ite ?_ ?_
      · refine pk_ite ?_ ?_
        · exact (K_X12_stands_219 h)
        · exact (K_X12_stands_223 h)
      · exact (K_X12_stands_223 h)
theorem K_X12_stands_L161 {v0 : Int32} {x1 : Int32} {x2 : Int32} {x3 : Int32} {x4 : Int32} {s : mG} (h : KV 88 4 v0 s) : pk (F_X12_stands_L161 x1 x2 x3 x4 s) (fun τ => KV 88 4 v0 τ.2) := by
  unfold F_X12_stands_L161
  refine pk_whl (fun v => KV 88 4 v0 v.2.2.2.2) h (fun v hv => ?_)
  obtain ⟨y0, y1, y2, y3, y4⟩ := v
  exact K_X12_stands_B161 hv
theorem K_X12_stands_157 {v0 : Int32} {x1 : Int32} {x2 : Int32} {y0 : Int32} {s : mG} (h : KV 88 4 v0 s) : pk (F_X12_stands_157 x1 x2 y0 s) (fun τ => KV 88 4 v0 τ.2) := by
  unfold F_X12_stands_157
  exact (K_X12_stands_L161 h)
theorem K_X12_stands_103 {v0 : Int32} {x1 : Int32} {x2 : Int32} {x3 : Int32} {x4 : Int32} {y1 : Int32} {y2 : Int32} {y3 : Int32} {s : mG} (h : KV 88 4 v0 s) : pk (F_X12_stands_103 x1 x2 x3 x4 y1 y2 y3 s) (se (fun τ => KV 88 4 v0 τ.2.2.2.2) (se (fun τ => KV 88 4 v0 τ.2.2.2) (fun τ => KV 88 4 v0 τ.2))) := by
  unfold F_X12_stands_103
  refine pk_nn ?_
  extract_lets +onlyGivenNames s_1
  have h_2 : KV 88 4 v0 s_1 := KV_mu h (Or.inl (by decide))
  clear_value s_1
  exact pk_some h_2
theorem K_X12_stands_B58 {v0 : Int32} {x1 : Int32} {x2 : Int32} {x3 : Int32} {x4 : Int32} {s : mG} (h : KV 88 4 v0 s) : pk (F_X12_stands_B58 x1 x2 x3 x4 s) (se (fun τ => KV 88 4 v0 τ.2.2.2.2) (se (fun τ => KV 88 4 v0 τ.2.2.2) (fun τ => KV 88 4 v0 τ.2))) := by
  unfold F_X12_stands_B58
  refine pk_ite ?_ ?_
  · exact pk_some h
  · refine pk_nn ?_
    refine pk_ite ?_ ?_
    · exact (K_X12_stands_103 h)
    · refine pk_b1 pk_top (fun _ _ => ?_)
      exact (K_X12_stands_103 h)
theorem K_X12_stands_L58 {v0 : Int32} {x1 : Int32} {x2 : Int32} {x3 : Int32} {x4 : Int32} {s : mG} (h : KV 88 4 v0 s) : pk (F_X12_stands_L58 x1 x2 x3 x4 s) (se (fun τ => KV 88 4 v0 τ.2.2.2) (fun τ => KV 88 4 v0 τ.2)) := by
  unfold F_X12_stands_L58
  refine pk_whl (fun v => KV 88 4 v0 v.2.2.2.2) h (fun v hv => ?_)
  obtain ⟨y0, y1, y2, y3, y4⟩ := v
  exact K_X12_stands_B58 hv
theorem K_X12_stands_B51 {v0 : Int32} {x1 : Int32} {x2 : Int32} {x3 : Int32} {s : mG} (h : KV 88 4 v0 s) : pk (F_X12_stands_B51 x1 x2 x3 s) (se (fun τ => KV 88 4 v0 τ.2.2.2) (fun τ => KV 88 4 v0 τ.2)) := by
  unfold F_X12_stands_B51
  refine pk_ite ?_ ?_
  · refine pk_ite ?_ ?_
    · refine pk_b1 pk_top (fun _ _ => ?_)
      exact pk_some h
    · refine pk_ite ?_ ?_
      · refine pk_b1r ?_
        exact (K_X12_stands_157 h)
      · refine pk_b1r ?_
        exact (K_X12_stands_157 h)
  · exact (K_X12_stands_L58 h)
theorem K_X12_stands_L51 {v0 : Int32} {x1 : Int32} {x2 : Int32} {x3 : Int32} {s : mG} (h : KV 88 4 v0 s) : pk (F_X12_stands_L51 x1 x2 x3 s) (fun τ => KV 88 4 v0 τ.2) := by
  unfold F_X12_stands_L51
  refine pk_whl (fun v => KV 88 4 v0 v.2.2.2) h (fun v hv => ?_)
  obtain ⟨y0, y1, y2, y3⟩ := v
  exact K_X12_stands_B51 hv
theorem K_X12_stands_28 {v0 : Int32} {x1 : Int32} {x2 : Int32} {s : mG} (h : KV 88 4 v0 s) : pk (F_X12_stands_28 x1 x2 s) (fun τ => KV 88 4 v0 τ.2) := by
  unfold F_X12_stands_28
  refine pk_b1 (K_X12_laysDoors h) (fun s_1 (h_2 : KV 88 4 v0 s_1) => ?_)
  extract_lets +onlyGivenNames s_3
  have h_4 : KV 88 4 v0 s_3 := KV_mu h_2 (Or.inl (by decide))
  clear_value s_3
  extract_lets +onlyGivenNames s_5
  have h_6 : KV 88 4 v0 s_5 := KV_mu h_4 (Or.inl (by decide))
  clear_value s_5
  exact (K_X12_stands_L51 h_6)
theorem K_X12_stands {v0 : Int32} {a1 : Int32} {a2 : Int32} {s : mG} (h : KV 88 4 v0 s) : pk (F_X12_stands a1 a2 s) (fun τ => KV 88 4 v0 τ.2) := by
  unfold F_X12_stands
  refine pk_b1 pk_top (fun _ _ => ?_)
  refine pk_ite ?_ ?_
  · exact (K_X12_stands_26 h)
  · refine pk_ite ?_ ?_
    · exact (K_X12_stands_28 h)
    · refine pk_b1 pk_top (fun _ _ => ?_)
      refine pk_ite ?_ ?_
      · exact (K_X12_stands_26 h)
      · exact (K_X12_stands_28 h)
theorem K_X12_carries_39 {v0 : Int32} {x1 : Int32} {x2 : Int32} {s : mG} (h : KV 88 4 v0 s) : pk (F_X12_carries_39 x1 x2 s) (se (fun τ => KV 88 4 v0 τ.2.2) (fun τ => KV 88 4 v0 τ.2)) := by
  unfold F_X12_carries_39
  exact pk_some h
theorem K_X12_carries_37 {v0 : Int32} {x2 : Int32} {s : mG} (h : KV 88 4 v0 s) : pk (F_X12_carries_37 x2 s) (se (fun τ => KV 88 4 v0 τ.2.2) (fun τ => KV 88 4 v0 τ.2)) := by
  unfold F_X12_carries_37
  exact (K_X12_carries_39 h)
theorem K_X12_carries_B4 {v0 : Int32} {x1 : Int32} {x2 : Int32} {s : mG} (h : KV 88 4 v0 s) : pk (F_X12_carries_B4 x1 x2 s) (se (fun τ => KV 88 4 v0 τ.2.2) (fun τ => KV 88 4 v0 τ.2)) := by
  unfold F_X12_carries_B4
  refine pk_ite ?_ ?_
  · exact pk_some h
  · refine pk_ite ?_ ?_
    · exact (K_X12_carries_37 h)
    · refine pk_b2 (K_X12_saysNow h) (fun _ s_1 (h_2 : KV 88 4 v0 s_1) => ?_)
      refine pk_b2 (K_X12_saysNow h_2) (fun _ s_3 (h_4 : KV 88 4 v0 s_3) => ?_)
      refine pk_ite ?_ ?_
      · exact (K_X12_carries_39 h_4)
      · exact (K_X12_carries_37 h_4)
theorem K_X12_carries_L4 {v0 : Int32} {x1 : Int32} {x2 : Int32} {s : mG} (h : KV 88 4 v0 s) : pk (F_X12_carries_L4 x1 x2 s) (fun τ => KV 88 4 v0 τ.2) := by
  unfold F_X12_carries_L4
  refine pk_whl (fun v => KV 88 4 v0 v.2.2) h (fun v hv => ?_)
  obtain ⟨y0, y1, y2⟩ := v
  exact K_X12_carries_B4 hv
theorem K_X12_carries {v0 : Int32} {s : mG} (h : KV 88 4 v0 s) : pk (F_X12_carries s) (fun τ => KV 88 4 v0 τ.2) := by
  unfold F_X12_carries
  exact (K_X12_carries_L4 h)
theorem K_X12_away_29 {v0 : Int32} {s : mG} (h : KV 88 4 v0 s) : pk (F_X12_away_29 s) (fun τ => KV 88 4 v0 τ.2) := by
  unfold F_X12_away_29
  exact pk_some h
theorem K_X12_away_B38 {v0 : Int32} {x1 : Int32} {x2 : Int32} {x3 : Int32} {x4 : Int32} {s : mG} (h : KV 88 4 v0 s) : pk (F_X12_away_B38 x1 x2 x3 x4 s) (se (fun τ => KV 88 4 v0 τ.2.2.2.2) (fun τ => KV 88 4 v0 τ.2)) := by
  unfold F_X12_away_B38
  refine pk_ite ?_ ?_
  · exact pk_some h
  · refine pk_nn ?_
    refine pk_b1 pk_top (fun _ _ => ?_)
    refine pk_b2 (K_X12_saysIn h) (fun _ s_1 (h_2 : KV 88 4 v0 s_1) => ?_)
    extract_lets +onlyGivenNames v_3
    clear_value v_3
    exact pk_some h_2
theorem K_X12_away_L38 {v0 : Int32} {x1 : Int32} {x2 : Int32} {x3 : Int32} {x4 : Int32} {s : mG} (h : KV 88 4 v0 s) : pk (F_X12_away_L38 x1 x2 x3 x4 s) (fun τ => KV 88 4 v0 τ.2) := by
  unfold F_X12_away_L38
  refine pk_whl (fun v => KV 88 4 v0 v.2.2.2.2) h (fun v hv => ?_)
  obtain ⟨y0, y1, y2, y3, y4⟩ := v
  exact K_X12_away_B38 hv
theorem K_X12_away {v0 : Int32} {a1 : Int32} {a2 : Int32} {s : mG} (h : KV 88 4 v0 s) : pk (F_X12_away a1 a2 s) (fun τ => KV 88 4 v0 τ.2) := by
  unfold F_X12_away
  refine pk_b1 pk_top (fun _ _ => ?_)
  refine pk_ite ?_ ?_
  · exact (K_X12_away_29 h)
  · refine pk_nn ?_
    refine pk_ite ?_ ?_
    · exact (K_X12_away_29 h)
    · refine pk_b1 pk_top (fun _ _ => ?_)
      refine pk_ite ?_ ?_
      · exact (K_X12_away_29 h)
      · exact (K_X12_away_L38 h)
theorem K_X12_of {v0 : Int32} {a1 : Int32} {a2 : Int32} {s : mG} (h : KV 88 4 v0 s) : pk (F_X12_of a1 a2 s) (fun τ => KV 88 4 v0 τ.2) := by
  unfold F_X12_of
  refine pk_b1 pk_top (fun _ _ => ?_)
  refine pk_ite ?_ ?_
  · exact pk_some h
  · refine pk_ite ?_ ?_
    · refine pk_nn ?_
      extract_lets +onlyGivenNames v_1
      clear_value v_1
      exact pk_some h
    · refine pk_ite ?_ ?_
      · refine pk_nn ?_
        extract_lets +onlyGivenNames v_2
        clear_value v_2
        exact pk_some h
      · refine pk_ite ?_ ?_
        · refine pk_nn ?_
          extract_lets +onlyGivenNames v_3
          clear_value v_3
          exact pk_some h
        · refine pk_ite ?_ ?_
          · refine pk_nn ?_
            extract_lets +onlyGivenNames v_4
            clear_value v_4
            exact pk_some h
          · refine pk_ite ?_ ?_
            · refine pk_nn ?_
              extract_lets +onlyGivenNames v_5
              clear_value v_5
              exact pk_some h
            · refine pk_ite ?_ ?_
              · refine pk_b2 (K_X12_sureOf h) (fun _ s_6 (h_7 : KV 88 4 v0 s_6) => ?_)
                exact pk_some h_7
              · refine pk_b1 pk_top (fun _ _ => ?_)
                refine pk_ite ?_ ?_
                · exact pk_some h
                · refine pk_b2 (K_X12_saysNow h) (fun _ s_8 (h_9 : KV 88 4 v0 s_8) => ?_)
                  exact pk_some h_9
theorem K_X12_image_53 {v0 : Int32} {x1 : Int32} {x2 : Int32} {s : mG} (h : KV 88 4 v0 s) : pk (F_X12_image_53 x1 x2 s) (se (fun τ => KV 88 4 v0 τ.2.2) (fun τ => KV 88 4 v0 τ.2)) := by
  unfold F_X12_image_53
  exact pk_some h
end
