noncomputable section
theorem K_X0_glanceAt_B2 {v0 : Int32} {x1 : Int32} {x2 : Int32} {s : mG} (h : KV 0 2 v0 s) : pk (F_X0_glanceAt_B2 x1 x2 s) (se (fun τ => KV 0 2 v0 τ.2.2) (fun τ => KV 0 2 v0 τ)) := by
  unfold F_X0_glanceAt_B2
  refine pk_ite ?_ ?_
  · exact pk_some h
  · refine pk_b1 pk_top (fun _ _ => ?_)
    refine pk_nn ?_
    extract_lets +onlyGivenNames s_1
    have h_2 : KV 0 2 v0 s_1 := KV_mu h (Or.inl (by decide))
    clear_value s_1
    exact pk_some h_2
theorem K_X0_glanceAt_L2 {v0 : Int32} {x1 : Int32} {x2 : Int32} {s : mG} (h : KV 0 2 v0 s) : pk (F_X0_glanceAt_L2 x1 x2 s) (fun τ => KV 0 2 v0 τ) := by
  unfold F_X0_glanceAt_L2
  refine pk_whl (fun v => KV 0 2 v0 v.2.2) h (fun v hv => ?_)
  obtain ⟨y0, y1, y2⟩ := v
  exact K_X0_glanceAt_B2 hv
theorem K_X0_glanceAt {v0 : Int32} {a1 : Int32} {s : mG} (h : KV 0 2 v0 s) : pk (F_X0_glanceAt a1 s) (fun τ => KV 0 2 v0 τ) := by
  unfold F_X0_glanceAt
  exact (K_X0_glanceAt_L2 h)
theorem K_X11_put {v0 : Int32} {a1 : Nat} {a2 : Int32} {a3 : Int32} {s : mG} (ha : a1 ≠ 0) (h : KV 0 2 v0 s) : pk (F_X11_put a1 a2 a3 s) (fun τ => KV 0 2 v0 τ) := by
  unfold F_X11_put
  refine pk_ite ?_ ?_
  · exact pk_some h
  · refine pk_b1 pk_top (fun _ _ => ?_)
    refine pk_ite ?_ ?_
    · exact pk_some h
    · refine pk_bs (fun _ => ?_)
      refine pk_nn ?_
      extract_lets +onlyGivenNames s_1
      have h_2 : KV 0 2 v0 s_1 := KV_mu h (Or.inl (Ne.symm ha))
      clear_value s_1
      exact pk_some h_2
theorem K_X3_supposeHour {v0 : Int32} {a1 : Int32} {s : mG} (h : KV 0 2 v0 s) : pk (F_X3_supposeHour a1 s) (fun τ => KV 0 2 v0 τ) := by
  unfold F_X3_supposeHour
  refine pk_b1 (K_X11_put (by decide) h) (fun s_1 (h_2 : KV 0 2 v0 s_1) => ?_)
  refine pk_b1 (K_X11_put (by decide) h_2) (fun s_3 (h_4 : KV 0 2 v0 s_3) => ?_)
  exact pk_some h_4
theorem K_X3_face_107 {v0 : Int32} {x1 : Int32} {y1 : Int32} {y2 : Int32} {s : mG} (h : KV 0 2 v0 s) : pk (F_X3_face_107 x1 y1 y2 s) (fun τ => KV 0 2 v0 τ) := by
  unfold F_X3_face_107
  refine pk_b1 (K_X11_put (by decide) h) (fun s_1 (h_2 : KV 0 2 v0 s_1) => ?_)
  refine pk_b1 pk_top (fun _ _ => ?_)
  refine pk_b1 (K_X11_put (by decide) h_2) (fun s_3 (h_4 : KV 0 2 v0 s_3) => ?_)
  refine pk_b1 (K_X3_supposeHour h_4) (fun s_5 (h_6 : KV 0 2 v0 s_5) => ?_)
  exact pk_some h_6
theorem K_X3_face {v0 : Int32} {a1 : Int32} {s : mG} (h : KV 0 2 v0 s) : pk (F_X3_face a1 s) (fun τ => KV 0 2 v0 τ) := by
  unfold F_X3_face
  refine pk_b1 (K_X11_put (by decide) h) (fun s_1 (h_2 : KV 0 2 v0 s_1) => ?_)
  refine pk_b1 pk_top (fun _ _ => ?_)
  refine pk_b1 (K_X11_put (by decide) h_2) (fun s_3 (h_4 : KV 0 2 v0 s_3) => ?_)
  refine pk_b1 pk_top (fun _ _ => ?_)
  refine pk_b1 (K_X11_put (by decide) h_4) (fun s_5 (h_6 : KV 0 2 v0 s_5) => ?_)
  refine pk_b1 (K_X11_put (by decide) h_6) (fun s_7 (h_8 : KV 0 2 v0 s_7) => ?_)
  refine pk_b1 (K_X11_put (by decide) h_8) (fun s_9 (h_10 : KV 0 2 v0 s_9) => ?_)
  refine pk_b1 pk_top (fun _ _ => ?_)
  refine pk_ite ?_ ?_
  · exact (K_X3_face_107 h_10)
  · exact (K_X3_face_107 h_10)
theorem K_X3_valueOf_229 {v0 : Int32} {x2 : Int32} {x3 : Int32} {x4 : Int32} {s : mG} (h : KV 0 2 v0 s) : pk (F_X3_valueOf_229 x2 x3 x4 s) (se (fun τ => KV 0 2 v0 τ.2.2.2) (fun τ => KV 0 2 v0 τ.2)) := by
  unfold F_X3_valueOf_229
  exact pk_some h
theorem K_X3_valueOf_199 {v0 : Int32} {x2 : Int32} {x3 : Int32} {x4 : Int32} {x5 : Int32} {x7 : Int32} {s : mG} (h : KV 0 2 v0 s) : pk (F_X3_valueOf_199 x2 x3 x4 x5 x7 s) (se (fun τ => KV 0 2 v0 τ.2.2.2) (fun τ => KV 0 2 v0 τ.2)) := by
  unfold F_X3_valueOf_199
  refine pk_b1 pk_top (fun _ _ => ?_)
  refine pk_b1 pk_top (fun _ _ => ?_)
  refine pk_b1 (K_X11_put (by decide) h) (fun s_1 (h_2 : KV 0 2 v0 s_1) => ?_)
  exact (K_X3_valueOf_229 h_2)
theorem K_X3_valueOf_176 {v0 : Int32} {x2 : Int32} {x3 : Int32} {x4 : Int32} {y1 : Int32} {y2 : Int32} {s : mG} (h : KV 0 2 v0 s) : pk (F_X3_valueOf_176 x2 x3 x4 y1 y2 s) (se (fun τ => KV 0 2 v0 τ.2.2.2) (fun τ => KV 0 2 v0 τ.2)) := by
  unfold F_X3_valueOf_176
  refine pk_b1 (K_X11_put (by decide) h) (fun s_1 (h_2 : KV 0 2 v0 s_1) => ?_)
  exact (K_X3_valueOf_229 h_2)
theorem K_X3_valueOf_B5 {v0 : Int32} {x2 : Int32} {x3 : Int32} {x4 : Int32} {s : mG} (h : KV 0 2 v0 s) : pk (F_X3_valueOf_B5 x2 x3 x4 s) (se (fun τ => KV 0 2 v0 τ.2.2.2) (fun τ => KV 0 2 v0 τ.2)) := by
  unfold F_X3_valueOf_B5
  refine pk_ite ?_ ?_
  · refine pk_b1 pk_top (fun _ _ => ?_)
    exact pk_some h
  · refine pk_b1 pk_top (fun _ _ => ?_)
    refine pk_b1 pk_top (fun _ _ => ?_)
    refine pk_b1 pk_top (fun _ _ => ?_)
    refine pk_ite ?_ ?_
    · refine pk_b1 (K_X11_put (by decide) h) (fun s_1 (h_2 : KV 0 2 v0 s_1) => ?_)
      exact (K_X3_valueOf_229 h_2)
    · refine pk_ite ?_ ?_
      · refine pk_b1 pk_top (fun _ _ => ?_)
        refine pk_b1 (K_X11_put (by decide) h) (fun s_3 (h_4 : KV 0 2 v0 s_3) => ?_)
        exact (K_X3_valueOf_229 h_4)
      · refine pk_ite ?_ ?_
        · exact (K_X3_valueOf_199 h)
        · refine pk_ite ?_ ?_
          · exact (K_X3_valueOf_199 h)
          · refine pk_ite ?_ ?_
            · exact (K_X3_valueOf_199 h)
            · refine pk_ite ?_ ?_
              · refine pk_ite ?_ ?_
                · exact (K_X3_valueOf_176 h)
                · refine pk_nn ?_
                  exact (K_X3_valueOf_176 h)
              · refine pk_ite ?_ ?_
                · exact (K_X3_valueOf_199 h)
                · refine pk_ite ?_ ?_
                  · exact (K_X3_valueOf_199 h)
                  · refine pk_ite ?_ ?_
                    · exact (K_X3_valueOf_199 h)
                    · refine pk_ite ?_ ?_
                      · refine pk_b1 (K_X11_put (by decide) h) (fun s_5 (h_6 : KV 0 2 v0 s_5) => ?_)
                        exact (K_X3_valueOf_229 h_6)
                      · exact (K_X3_valueOf_199 h)
theorem K_X3_valueOf_L5 {v0 : Int32} {x2 : Int32} {x3 : Int32} {x4 : Int32} {s : mG} (h : KV 0 2 v0 s) : pk (F_X3_valueOf_L5 x2 x3 x4 s) (fun τ => KV 0 2 v0 τ.2) := by
  unfold F_X3_valueOf_L5
  refine pk_whl (fun v => KV 0 2 v0 v.2.2.2) h (fun v hv => ?_)
  obtain ⟨y0, y1, y2, y3⟩ := v
  exact K_X3_valueOf_B5 hv
theorem K_X3_valueOf {v0 : Int32} {a1 : Int32} {a2 : Int32} {s : mG} (h : KV 0 2 v0 s) : pk (F_X3_valueOf a1 a2 s) (fun τ => KV 0 2 v0 τ.2) := by
  unfold F_X3_valueOf
  exact (K_X3_valueOf_L5 h)
theorem K_X3_tells_115 {v0 : Int32} {x1 : Int32} {x2 : Int32} {s : mG} (h : KV 0 2 v0 s) : pk (F_X3_tells_115 x1 x2 s) (se (fun τ => KV 0 2 v0 τ.2.2) (fun τ => KV 0 2 v0 τ.2)) := by
  unfold F_X3_tells_115
  exact pk_some h
theorem K_X3_tells_87 {v0 : Int32} {x2 : Int32} {x3 : Int32} {s : mG} (h : KV 0 2 v0 s) : pk (F_X3_tells_87 x2 x3 s) (fun τ => KV 0 2 v0 τ.2) := by
  unfold F_X3_tells_87
  refine pk_b1 pk_top (fun _ _ => ?_)
  refine pk_b2 (K_X3_valueOf h) (fun _ s_1 (h_2 : KV 0 2 v0 s_1) => ?_)
  extract_lets +onlyGivenNames v_3
  clear_value v_3
  exact pk_some h_2
theorem K_X3_tells_64 {v0 : Int32} {x1 : Int32} {x2 : Int32} {x3 : Int32} {x4 : Int32} {y0 : Int32} {s : mG} (h : KV 0 2 v0 s) : pk (F_X3_tells_64 x1 x2 x3 x4 y0 s) (se (fun τ => KV 0 2 v0 τ.2.2) (fun τ => KV 0 2 v0 τ.2)) := by
  unfold F_X3_tells_64
  refine pk_ite ?_ ?_
  · exact (K_X3_tells_115 h)
  · refine pk_ite ?_ ?_
    · refine pk_b1r ?_
      exact (K_X3_tells_87 h)
    · refine pk_b2 (K_X3_valueOf h) (fun _ s_1 (h_2 : KV 0 2 v0 s_1) => ?_)
      refine pk_ite ?_ ?_
      · exact (K_X3_tells_115 h_2)
      · refine pk_b1r ?_
        exact (K_X3_tells_87 h_2)
theorem K_X3_tells_B2 {v0 : Int32} {x1 : Int32} {x2 : Int32} {s : mG} (h : KV 0 2 v0 s) : pk (F_X3_tells_B2 x1 x2 s) (se (fun τ => KV 0 2 v0 τ.2.2) (fun τ => KV 0 2 v0 τ.2)) := by
  unfold F_X3_tells_B2
  refine pk_ite ?_ ?_
  · refine pk_ite ?_ ?_
    · refine pk_b1 pk_top (fun _ _ => ?_)
      refine pk_ite ?_ ?_
      · exact pk_some h
      · exact pk_some h
    · refine pk_b1 pk_top (fun _ _ => ?_)
      exact pk_some h
  · refine pk_b1 pk_top (fun _ _ => ?_)
    refine pk_b1 pk_top (fun _ _ => ?_)
    refine pk_b1 pk_top (fun _ _ => ?_)
    refine pk_ite ?_ ?_
    · exact (K_X3_tells_64 h)
    · exact (K_X3_tells_64 h)
theorem K_X3_tells_L2 {v0 : Int32} {x1 : Int32} {x2 : Int32} {s : mG} (h : KV 0 2 v0 s) : pk (F_X3_tells_L2 x1 x2 s) (fun τ => KV 0 2 v0 τ.2) := by
  unfold F_X3_tells_L2
  refine pk_whl (fun v => KV 0 2 v0 v.2.2) h (fun v hv => ?_)
  obtain ⟨y0, y1, y2⟩ := v
  exact K_X3_tells_B2 hv
theorem K_X3_tells {v0 : Int32} {a1 : Int32} {s : mG} (h : KV 0 2 v0 s) : pk (F_X3_tells a1 s) (fun τ => KV 0 2 v0 τ.2) := by
  unfold F_X3_tells
  exact (K_X3_tells_L2 h)
theorem K_X0_sureByGlance_74 {v0 : Int32} {x3 : Int32} {y0 : Int32} {s : mG} (h : KV 0 2 v0 s) : pk (F_X0_sureByGlance_74 x3 y0 s) (se (fun τ => KV 0 2 v0 τ.2.2) (fun τ => KV 0 2 v0 τ.2)) := by
  unfold F_X0_sureByGlance_74
  exact pk_some h
theorem K_X0_sureByGlance_71 {v0 : Int32} {x3 : Int32} {y1 : Int32} {y2 : Int32} {y3 : Int32} {s : mG} (h : KV 0 2 v0 s) : pk (F_X0_sureByGlance_71 x3 y1 y2 y3 s) (se (fun τ => KV 0 2 v0 τ.2.2) (fun τ => KV 0 2 v0 τ.2)) := by
  unfold F_X0_sureByGlance_71
  refine pk_b1 pk_top (fun _ _ => ?_)
  exact (K_X0_sureByGlance_74 h)
theorem K_X0_sureByGlance_B23 {v0 : Int32} {x2 : Int32} {x3 : Int32} {s : mG} (h : KV 0 2 v0 s) : pk (F_X0_sureByGlance_B23 x2 x3 s) (se (fun τ => KV 0 2 v0 τ.2.2) (fun τ => KV 0 2 v0 τ.2)) := by
  unfold F_X0_sureByGlance_B23
  refine pk_ite ?_ ?_
  · exact pk_some h
  · refine pk_b1 pk_top (fun _ _ => ?_)
    refine pk_ite ?_ ?_
    · exact (K_X0_sureByGlance_74 h)
    · refine pk_ite ?_ ?_
      · exact (K_X0_sureByGlance_71 h)
      · exact (K_X0_sureByGlance_71 h)
theorem K_X0_sureByGlance_L23 {v0 : Int32} {x2 : Int32} {x3 : Int32} {s : mG} (h : KV 0 2 v0 s) : pk (F_X0_sureByGlance_L23 x2 x3 s) (fun τ => KV 0 2 v0 τ.2) := by
  unfold F_X0_sureByGlance_L23
  refine pk_whl (fun v => KV 0 2 v0 v.2.2) h (fun v hv => ?_)
  obtain ⟨y0, y1, y2⟩ := v
  exact K_X0_sureByGlance_B23 hv
theorem K_X0_sureByGlance {v0 : Int32} {a1 : Int32} {s : mG} (h : KV 0 2 v0 s) : pk (F_X0_sureByGlance a1 s) (fun τ => KV 0 2 v0 τ.2) := by
  unfold F_X0_sureByGlance
  refine pk_b1 (K_X3_face h) (fun s_1 (h_2 : KV 0 2 v0 s_1) => ?_)
  refine pk_b2 (K_X3_tells h_2) (fun _ s_3 (h_4 : KV 0 2 v0 s_3) => ?_)
  exact (K_X0_sureByGlance_L23 h_4)
theorem K_X0_sureOf {v0 : Int32} {a1 : Int32} {s : mG} (h : KV 0 2 v0 s) : pk (F_X0_sureOf a1 s) (fun τ => KV 0 2 v0 τ.2) := by
  unfold F_X0_sureOf
  refine pk_b1 (K_X0_glanceAt h) (fun s_1 (h_2 : KV 0 2 v0 s_1) => ?_)
  refine pk_b2 (K_X0_sureByGlance h_2) (fun _ s_3 (h_4 : KV 0 2 v0 s_3) => ?_)
  exact pk_some h_4
theorem K_X0_signAt_39 {v0 : Int32} {x5 : Int32} {s : mG} (h : KV 0 2 v0 s) : pk (F_X0_signAt_39 x5 s) (fun τ => KV 0 2 v0 τ.2) := by
  unfold F_X0_signAt_39
  exact pk_some h
theorem K_X0_signAt_66 {v0 : Int32} {x1 : Int32} {x2 : Int32} {x3 : Int32} {y1 : Int32} {y2 : Int32} {s : mG} (h : KV 0 2 v0 s) : pk (F_X0_signAt_66 x1 x2 x3 y1 y2 s) (se (fun τ => KV 0 2 v0 τ.2.2.2) (fun τ => KV 0 2 v0 τ.2)) := by
  unfold F_X0_signAt_66
  refine pk_b1 (K_X11_put (by decide) h) (fun s_1 (h_2 : KV 0 2 v0 s_1) => ?_)
  exact pk_some h_2
theorem K_X0_signAt_B7 {v0 : Int32} {x1 : Int32} {x2 : Int32} {x3 : Int32} {s : mG} (h : KV 0 2 v0 s) : pk (F_X0_signAt_B7 x1 x2 x3 s) (se (fun τ => KV 0 2 v0 τ.2.2.2) (fun τ => KV 0 2 v0 τ.2)) := by
  unfold F_X0_signAt_B7
  refine pk_ite ?_ ?_
  · exact pk_some h
  · refine pk_b2 (K_X0_sureByGlance h) (fun _ s_1 (h_2 : KV 0 2 v0 s_1) => ?_)
    refine pk_b1 pk_top (fun _ _ => ?_)
    refine pk_ite ?_ ?_
    · refine pk_b1r ?_
      exact (K_X0_signAt_39 h_2)
    · refine pk_ite ?_ ?_
      · refine pk_b1r ?_
        exact (K_X0_signAt_39 h_2)
      · refine pk_b1 pk_top (fun _ _ => ?_)
        refine pk_ite ?_ ?_
        · exact (K_X0_signAt_66 h_2)
        · exact (K_X0_signAt_66 h_2)
theorem K_X0_signAt_L7 {v0 : Int32} {x1 : Int32} {x2 : Int32} {x3 : Int32} {s : mG} (h : KV 0 2 v0 s) : pk (F_X0_signAt_L7 x1 x2 x3 s) (fun τ => KV 0 2 v0 τ.2) := by
  unfold F_X0_signAt_L7
  refine pk_whl (fun v => KV 0 2 v0 v.2.2.2) h (fun v hv => ?_)
  obtain ⟨y0, y1, y2, y3⟩ := v
  exact K_X0_signAt_B7 hv
theorem K_X0_signAt {v0 : Int32} {a1 : Int32} {a2 : Int32} {s : mG} (h : KV 0 2 v0 s) : pk (F_X0_signAt a1 a2 s) (fun τ => KV 0 2 v0 τ.2) := by
  unfold F_X0_signAt
  refine pk_b1 (K_X0_glanceAt h) (fun s_1 (h_2 : KV 0 2 v0 s_1) => ?_)
  exact (K_X0_signAt_L7 h_2)
theorem K_X0_saysIn {v0 : Int32} {a1 : Int32} {a2 : Int32} {a3 : Int32} {s : mG} (h : KV 0 2 v0 s) : pk (F_X0_saysIn a1 a2 a3 s) (fun τ => KV 0 2 v0 τ.2) := by
  unfold F_X0_saysIn
  refine pk_b2 (K_X0_sureOf h) (fun _ s_1 (h_2 : KV 0 2 v0 s_1) => ?_)
  refine pk_b1 pk_top (fun _ _ => ?_)
  refine pk_pp ?_
  exact pk_some h_2
theorem K_X0_saidToAll_125 {v0 : Int32} {x1 : Int32} {x2 : Int32} {x4 : Int32} {y0 : Int32} {y1 : Int32} {s : mG} (h : KV 0 2 v0 s) : pk (F_X0_saidToAll_125 x1 x2 x4 y0 y1 s) (se (fun τ => KV 0 2 v0 τ.2.2.2.2) (fun τ => KV 0 2 v0 τ.2)) := by
  unfold F_X0_saidToAll_125
  exact pk_some h
theorem K_X0_saidToAll_97 {v0 : Int32} {x1 : Int32} {x3 : Int32} {x4 : Int32} {x5 : Int32} {x6 : Int32} {x7 : Int32} {x8 : Int32} {y0 : Int32} {y1 : Int32} {s : mG} (h : KV 0 2 v0 s) : pk (F_X0_saidToAll_97 x1 x3 x4 x5 x6 x7 x8 y0 y1 s) (se (fun τ => KV 0 2 v0 τ.2.2.2.2) (fun τ => KV 0 2 v0 τ.2)) := by
  unfold F_X0_saidToAll_97
  refine pk_ite ?_ ?_
  · refine pk_b1 pk_top (fun _ _ => ?_)
    exact (K_X0_saidToAll_125 h)
  · refine pk_b1 pk_top (fun _ _ => ?_)
    exact (K_X0_saidToAll_125 h)
theorem K_X0_saidToAll_B7 {v0 : Int32} {x1 : Int32} {x2 : Int32} {x3 : Int32} {x4 : Int32} {s : mG} (h : KV 0 2 v0 s) : pk (F_X0_saidToAll_B7 x1 x2 x3 x4 s) (se (fun τ => KV 0 2 v0 τ.2.2.2.2) (fun τ => KV 0 2 v0 τ.2)) := by
  unfold F_X0_saidToAll_B7
  refine pk_ite ?_ ?_
  · refine pk_ite ?_ ?_
    · exact pk_some h
    · exact pk_some h
  · refine pk_b1 pk_top (fun _ _ => ?_)
    refine pk_b2 (K_X0_sureOf h) (fun _ s_1 (h_2 : KV 0 2 v0 s_1) => ?_)
    refine pk_b1 pk_top (fun _ _ => ?_)
    refine pk_b1 pk_top (fun _ _ => ?_)
    refine pk_b1 pk_top (fun _ _ => ?_)
    refine pk_ite ?_ ?_
    · exact (K_X0_saidToAll_97 h_2)
    · exact (K_X0_saidToAll_97 h_2)
theorem K_X0_saidToAll_L7 {v0 : Int32} {x1 : Int32} {x2 : Int32} {x3 : Int32} {x4 : Int32} {s : mG} (h : KV 0 2 v0 s) : pk (F_X0_saidToAll_L7 x1 x2 x3 x4 s) (fun τ => KV 0 2 v0 τ.2) := by
  unfold F_X0_saidToAll_L7
  refine pk_whl (fun v => KV 0 2 v0 v.2.2.2.2) h (fun v hv => ?_)
  obtain ⟨y0, y1, y2, y3, y4⟩ := v
  exact K_X0_saidToAll_B7 hv
theorem K_X0_saidToAll {v0 : Int32} {a1 : Int32} {s : mG} (h : KV 0 2 v0 s) : pk (F_X0_saidToAll a1 s) (fun τ => KV 0 2 v0 τ.2) := by
  unfold F_X0_saidToAll
  exact (K_X0_saidToAll_L7 h)
theorem K_X0_weighAll_B2 {v0 : Int32} {x1 : Int32} {s : mG} (h : KV 0 2 v0 s) : pk (F_X0_weighAll_B2 x1 s) (se (fun τ => KV 0 2 v0 τ.2) (fun τ => KV 0 2 v0 τ)) := by
  unfold F_X0_weighAll_B2
  refine pk_ite ?_ ?_
  · exact pk_some h
  · refine pk_b1 (K_X0_glanceAt h) (fun s_1 (h_2 : KV 0 2 v0 s_1) => ?_)
    refine pk_b2 (K_X0_sureByGlance h_2) (fun _ s_3 (h_4 : KV 0 2 v0 s_3) => ?_)
    refine pk_b1 (K_X11_put (by decide) h_4) (fun s_5 (h_6 : KV 0 2 v0 s_5) => ?_)
    exact pk_some h_6
theorem K_X0_weighAll_L2 {v0 : Int32} {x1 : Int32} {s : mG} (h : KV 0 2 v0 s) : pk (F_X0_weighAll_L2 x1 s) (fun τ => KV 0 2 v0 τ) := by
  unfold F_X0_weighAll_L2
  refine pk_whl (fun v => KV 0 2 v0 v.2) h (fun v hv => ?_)
  obtain ⟨y0, y1⟩ := v
  exact K_X0_weighAll_B2 hv
theorem K_X0_weighAll {v0 : Int32} {s : mG} (h : KV 0 2 v0 s) : pk (F_X0_weighAll s) (fun τ => KV 0 2 v0 τ) := by
  unfold F_X0_weighAll
  exact (K_X0_weighAll_L2 h)
theorem K_X0_sumOfSure_B8 {v0 : Int32} {x1 : Int32} {x2 : Int32} {s : mG} (h : KV 0 2 v0 s) : pk (F_X0_sumOfSure_B8 x1 x2 s) (se (fun τ => KV 0 2 v0 τ.2.2) (fun τ => KV 0 2 v0 τ.2)) := by
  unfold F_X0_sumOfSure_B8
  refine pk_ite ?_ ?_
  · exact pk_some h
  · refine pk_b1 pk_top (fun _ _ => ?_)
    exact pk_some h
theorem K_X0_sumOfSure_L8 {v0 : Int32} {x1 : Int32} {x2 : Int32} {s : mG} (h : KV 0 2 v0 s) : pk (F_X0_sumOfSure_L8 x1 x2 s) (fun τ => KV 0 2 v0 τ.2) := by
  unfold F_X0_sumOfSure_L8
  refine pk_whl (fun v => KV 0 2 v0 v.2.2) h (fun v hv => ?_)
  obtain ⟨y0, y1, y2⟩ := v
  exact K_X0_sumOfSure_B8 hv
theorem K_X0_sumOfSure {v0 : Int32} {s : mG} (h : KV 0 2 v0 s) : pk (F_X0_sumOfSure s) (fun τ => KV 0 2 v0 τ.2) := by
  unfold F_X0_sumOfSure
  refine pk_b1 (K_X0_weighAll h) (fun s_1 (h_2 : KV 0 2 v0 s_1) => ?_)
  exact (K_X0_sumOfSure_L8 h_2)
theorem K_X0_countChance_B8 {v0 : Int32} {x1 : Int32} {x2 : Int32} {s : mG} (h : KV 0 2 v0 s) : pk (F_X0_countChance_B8 x1 x2 s) (se (fun τ => KV 0 2 v0 τ.2.2) (fun τ => KV 0 2 v0 τ)) := by
  unfold F_X0_countChance_B8
  refine pk_ite ?_ ?_
  · exact pk_some h
  · refine pk_b1 pk_top (fun _ _ => ?_)
    refine pk_b1 pk_top (fun _ _ => ?_)
    refine pk_b1 pk_top (fun _ _ => ?_)
    refine pk_b1 pk_top (fun _ _ => ?_)
    refine pk_b1 (K_X11_put (by decide) h) (fun s_1 (h_2 : KV 0 2 v0 s_1) => ?_)
    exact pk_some h_2
theorem K_X0_countChance_L8 {v0 : Int32} {x1 : Int32} {x2 : Int32} {s : mG} (h : KV 0 2 v0 s) : pk (F_X0_countChance_L8 x1 x2 s) (fun τ => KV 0 2 v0 τ) := by
  unfold F_X0_countChance_L8
  refine pk_whl (fun v => KV 0 2 v0 v.2.2) h (fun v hv => ?_)
  obtain ⟨y0, y1, y2⟩ := v
  exact K_X0_countChance_B8 hv
theorem K_X0_countChance {v0 : Int32} {a1 : Int32} {s : mG} (h : KV 0 2 v0 s) : pk (F_X0_countChance a1 s) (fun τ => KV 0 2 v0 τ) := by
  unfold F_X0_countChance
  exact (K_X0_countChance_L8 h)
theorem K_X0_countChances_70 {v0 : Int32} {x1 : Int32} {x2 : Int32} {s : mG} (h : KV 0 2 v0 s) : pk (F_X0_countChances_70 x1 x2 s) (se (fun τ => KV 0 2 v0 τ.2.2) (fun τ => KV 0 2 v0 τ)) := by
  unfold F_X0_countChances_70
  exact pk_some h
theorem K_X0_countChances_B39 {v0 : Int32} {x1 : Int32} {x2 : Int32} {s : mG} (h : KV 0 2 v0 s) : pk (F_X0_countChances_B39 x1 x2 s) (se (fun τ => KV 0 2 v0 τ.2.2) (fun τ => KV 0 2 v0 τ)) := by
  unfold F_X0_countChances_B39
  refine pk_ite ?_ ?_
  · exact pk_some h
  · refine pk_ite ?_ ?_
    · exact (K_X0_countChances_70 h)
    · refine pk_b1 pk_top (fun _ _ => ?_)
      refine pk_b1 (K_X0_countChance h) (fun s_1 (h_2 : KV 0 2 v0 s_1) => ?_)
      exact (K_X0_countChances_70 h_2)
theorem K_X0_countChances_L39 {v0 : Int32} {x1 : Int32} {x2 : Int32} {s : mG} (h : KV 0 2 v0 s) : pk (F_X0_countChances_L39 x1 x2 s) (fun τ => KV 0 2 v0 τ) := by
  unfold F_X0_countChances_L39
  refine pk_whl (fun v => KV 0 2 v0 v.2.2) h (fun v hv => ?_)
  obtain ⟨y0, y1, y2⟩ := v
  exact K_X0_countChances_B39 hv
theorem K_X0_countChances_30 {v0 : Int32} {x1 : Int32} {x2 : Int32} {y1 : Int32} {y2 : Int32} {s : mG} (h : KV 0 2 v0 s) : pk (F_X0_countChances_30 x1 x2 y1 y2 s) (se (fun τ => KV 0 2 v0 τ.2.2) (fun τ => KV 0 2 v0 τ)) := by
  unfold F_X0_countChances_30
  refine pk_nn ?_
  extract_lets +onlyGivenNames s_1
  have h_2 : KV 0 2 v0 s_1 := KV_mu h (Or.inl (by decide))
  clear_value s_1
  exact pk_some h_2
theorem K_X0_countChances_B6 {v0 : Int32} {x1 : Int32} {x2 : Int32} {s : mG} (h : KV 0 2 v0 s) : pk (F_X0_countChances_B6 x1 x2 s) (se (fun τ => KV 0 2 v0 τ.2.2) (fun τ => KV 0 2 v0 τ)) := by
  unfold F_X0_countChances_B6
  refine pk_ite ?_ ?_
  · refine pk_b1r ?_
    exact (K_X0_countChances_L39 h)
  · refine pk_ite ?_ ?_
    · exact (K_X0_countChances_30 h)
    · exact (K_X0_countChances_30 h)
theorem K_X0_countChances_L6 {v0 : Int32} {x1 : Int32} {x2 : Int32} {s : mG} (h : KV 0 2 v0 s) : pk (F_X0_countChances_L6 x1 x2 s) (fun τ => KV 0 2 v0 τ) := by
  unfold F_X0_countChances_L6
  refine pk_whl (fun v => KV 0 2 v0 v.2.2) h (fun v hv => ?_)
  obtain ⟨y0, y1, y2⟩ := v
  exact K_X0_countChances_B6 hv
theorem K_X0_countChances {v0 : Int32} {a1 : Int32} {s : mG} (h : KV 0 2 v0 s) : pk (F_X0_countChances a1 s) (fun τ => KV 0 2 v0 τ) := by
  unfold F_X0_countChances
  refine pk_b1 (K_X0_weighAll h) (fun s_1 (h_2 : KV 0 2 v0 s_1) => ?_)
  exact (K_X0_countChances_L6 h_2)
theorem K_X0_likeliest_47 {v0 : Int32} {x1 : Int32} {x3 : Int32} {y0 : Int32} {s : mG} (h : KV 0 2 v0 s) : pk (F_X0_likeliest_47 x1 x3 y0 s) (se (fun τ => KV 0 2 v0 τ.2.2.2) (fun τ => KV 0 2 v0 τ.2)) := by
  unfold F_X0_likeliest_47
  exact pk_some h
theorem K_X0_likeliest_B9 {v0 : Int32} {x1 : Int32} {x2 : Int32} {x3 : Int32} {s : mG} (h : KV 0 2 v0 s) : pk (F_X0_likeliest_B9 x1 x2 x3 s) (se (fun τ => KV 0 2 v0 τ.2.2.2) (fun τ => KV 0 2 v0 τ.2)) := by
  unfold F_X0_likeliest_B9
  refine pk_ite ?_ ?_
  · refine pk_ite ?_ ?_
    · exact pk_some h
    · refine pk_b1 pk_top (fun _ _ => ?_)
      exact pk_some h
  · refine pk_b1 pk_top (fun _ _ => ?_)
    refine pk_b1 pk_top (fun _ _ => ?_)
    refine pk_ite ?_ ?_
    · exact (K_X0_likeliest_47 h)
    · exact (K_X0_likeliest_47 h)
theorem K_X0_likeliest_L9 {v0 : Int32} {x1 : Int32} {x2 : Int32} {x3 : Int32} {s : mG} (h : KV 0 2 v0 s) : pk (F_X0_likeliest_L9 x1 x2 x3 s) (fun τ => KV 0 2 v0 τ.2) := by
  unfold F_X0_likeliest_L9
  refine pk_whl (fun v => KV 0 2 v0 v.2.2.2) h (fun v hv => ?_)
  obtain ⟨y0, y1, y2, y3⟩ := v
  exact K_X0_likeliest_B9 hv
theorem K_X0_likeliest {v0 : Int32} {a1 : Int32} {s : mG} (h : KV 0 2 v0 s) : pk (F_X0_likeliest a1 s) (fun τ => KV 0 2 v0 τ.2) := by
  unfold F_X0_likeliest
  refine pk_b1 (K_X0_countChances h) (fun s_1 (h_2 : KV 0 2 v0 s_1) => ?_)
  exact (K_X0_likeliest_L9 h_2)
theorem K_X0_spanEdge_B28 {v0 : Int32} {x1 : Int32} {x2 : Int32} {x3 : Int32} {x4 : Int32} {x5 : Int32} {s : mG} (h : KV 0 2 v0 s) : pk (F_X0_spanEdge_B28 x1 x2 x3 x4 x5 s) (se (fun τ => KV 0 2 v0 τ.2.2.2.2.2) (se (fun τ => KV 0 2 v0 τ.2.2.2.2) (fun τ => KV 0 2 v0 τ.2))) := by
  unfold F_X0_spanEdge_B28
  refine pk_ite ?_ ?_
  · exact pk_some h
  · refine pk_b1 pk_top (fun _ _ => ?_)
    refine pk_ite ?_ ?_
    · exact pk_some h
    · refine pk_ite ?_ ?_
      · exact pk_some h
      · exact pk_some h
theorem K_X0_spanEdge_L28 {v0 : Int32} {x1 : Int32} {x2 : Int32} {x3 : Int32} {x4 : Int32} {x5 : Int32} {s : mG} (h : KV 0 2 v0 s) : pk (F_X0_spanEdge_L28 x1 x2 x3 x4 x5 s) (se (fun τ => KV 0 2 v0 τ.2.2.2.2) (fun τ => KV 0 2 v0 τ.2)) := by
  unfold F_X0_spanEdge_L28
  refine pk_whl (fun v => KV 0 2 v0 v.2.2.2.2.2) h (fun v hv => ?_)
  obtain ⟨y0, y1, y2, y3, y4, y5⟩ := v
  exact K_X0_spanEdge_B28 hv
theorem K_X0_spanEdge_B19 {v0 : Int32} {x1 : Int32} {x2 : Int32} {x3 : Int32} {x4 : Int32} {s : mG} (h : KV 0 2 v0 s) : pk (F_X0_spanEdge_B19 x1 x2 x3 x4 s) (se (fun τ => KV 0 2 v0 τ.2.2.2.2) (fun τ => KV 0 2 v0 τ.2)) := by
  unfold F_X0_spanEdge_B19
  refine pk_ite ?_ ?_
  · exact pk_some h
  · exact (K_X0_spanEdge_L28 h)
theorem K_X0_spanEdge_L19 {v0 : Int32} {x1 : Int32} {x2 : Int32} {x3 : Int32} {x4 : Int32} {s : mG} (h : KV 0 2 v0 s) : pk (F_X0_spanEdge_L19 x1 x2 x3 x4 s) (fun τ => KV 0 2 v0 τ.2) := by
  unfold F_X0_spanEdge_L19
  refine pk_whl (fun v => KV 0 2 v0 v.2.2.2.2) h (fun v hv => ?_)
  obtain ⟨y0, y1, y2, y3, y4⟩ := v
  exact K_X0_spanEdge_B19 hv
theorem K_X0_spanEdge {v0 : Int32} {a1 : Int32} {a2 : Int32} {s : mG} (h : KV 0 2 v0 s) : pk (F_X0_spanEdge a1 a2 s) (fun τ => KV 0 2 v0 τ.2) := by
  unfold F_X0_spanEdge
  refine pk_b1 (K_X0_countChances h) (fun s_1 (h_2 : KV 0 2 v0 s_1) => ?_)
  exact (K_X0_spanEdge_L19 h_2)
theorem K_X0_amongCounted {v0 : Int32} {a1 : Int32} {a2 : Int32} {s : mG} (h : KV 0 2 v0 s) : pk (F_X0_amongCounted a1 a2 s) (fun τ => KV 0 2 v0 τ.2) := by
  unfold F_X0_amongCounted
  refine pk_b1 (K_X0_countChances h) (fun s_1 (h_2 : KV 0 2 v0 s_1) => ?_)
  refine pk_b1 pk_top (fun _ _ => ?_)
  refine pk_b1 pk_top (fun _ _ => ?_)
  extract_lets +onlyGivenNames v_3
  clear_value v_3
  refine pk_b1 pk_top (fun _ _ => ?_)
  extract_lets +onlyGivenNames v_4
  clear_value v_4
  refine pk_ite ?_ ?_
  · exact pk_some h_2
  · refine pk_nn ?_
    extract_lets +onlyGivenNames v_5
    clear_value v_5
    exact pk_some h_2
theorem K_X0_emptyChance_55 {v0 : Int32} {x1 : Int32} {x2 : Int32} {x3 : Int32} {s : mG} (h : KV 0 2 v0 s) : pk (F_X0_emptyChance_55 x1 x2 x3 s) (se (fun τ => KV 0 2 v0 τ.2.2.2) (fun τ => KV 0 2 v0 τ.2)) := by
  unfold F_X0_emptyChance_55
  exact pk_some h
theorem K_X0_emptyChance_B9 {v0 : Int32} {x1 : Int32} {x2 : Int32} {x3 : Int32} {s : mG} (h : KV 0 2 v0 s) : pk (F_X0_emptyChance_B9 x1 x2 x3 s) (se (fun τ => KV 0 2 v0 τ.2.2.2) (fun τ => KV 0 2 v0 τ.2)) := by
  unfold F_X0_emptyChance_B9
  refine pk_ite ?_ ?_
  · exact pk_some h
  · refine pk_b1 pk_top (fun _ _ => ?_)
    refine pk_ite ?_ ?_
    · refine pk_b1 pk_top (fun _ _ => ?_)
      refine pk_b1 pk_top (fun _ _ => ?_)
      exact (K_X0_emptyChance_55 h)
    · exact (K_X0_emptyChance_55 h)
theorem K_X0_emptyChance_L9 {v0 : Int32} {x1 : Int32} {x2 : Int32} {x3 : Int32} {s : mG} (h : KV 0 2 v0 s) : pk (F_X0_emptyChance_L9 x1 x2 x3 s) (fun τ => KV 0 2 v0 τ.2) := by
  unfold F_X0_emptyChance_L9
  refine pk_whl (fun v => KV 0 2 v0 v.2.2.2) h (fun v hv => ?_)
  obtain ⟨y0, y1, y2, y3⟩ := v
  exact K_X0_emptyChance_B9 hv
theorem K_X0_emptyChance {v0 : Int32} {a1 : Int32} {s : mG} (h : KV 0 2 v0 s) : pk (F_X0_emptyChance a1 s) (fun τ => KV 0 2 v0 τ.2) := by
  unfold F_X0_emptyChance
  refine pk_b1 (K_X0_weighAll h) (fun s_1 (h_2 : KV 0 2 v0 s_1) => ?_)
  exact (K_X0_emptyChance_L9 h_2)
theorem K_X0_bestPair_90 {v0 : Int32} {x1 : Int32} {x2 : Int32} {x3 : Int32} {x4 : Int32} {x5 : Int32} {x6 : Int32} {s : mG} (h : KV 0 2 v0 s) : pk (F_X0_bestPair_90 x1 x2 x3 x4 x5 x6 s) (se (fun τ => KV 0 2 v0 τ.2.2.2.2.2.2) (se (fun τ => KV 0 2 v0 τ.2.2.2.2.2) (fun τ => KV 0 2 v0 τ.2))) := by
  unfold F_X0_bestPair_90
  exact pk_some h
theorem K_X0_bestPair_B35 {v0 : Int32} {x1 : Int32} {x2 : Int32} {x3 : Int32} {x4 : Int32} {x5 : Int32} {x6 : Int32} {s : mG} (h : KV 0 2 v0 s) : pk (F_X0_bestPair_B35 x1 x2 x3 x4 x5 x6 s) (se (fun τ => KV 0 2 v0 τ.2.2.2.2.2.2) (se (fun τ => KV 0 2 v0 τ.2.2.2.2.2) (fun τ => KV 0 2 v0 τ.2))) := by
  unfold F_X0_bestPair_B35
  refine pk_ite ?_ ?_
  · exact pk_some h
  · refine pk_b1 pk_top (fun _ _ => ?_)
    refine pk_b1 pk_top (fun _ _ => ?_)
    refine pk_b1 pk_top (fun _ _ => ?_)
    refine pk_ite ?_ ?_
    · exact (K_X0_bestPair_90 h)
    · exact (K_X0_bestPair_90 h)
theorem K_X0_bestPair_L35 {v0 : Int32} {x1 : Int32} {x2 : Int32} {x3 : Int32} {x4 : Int32} {x5 : Int32} {x6 : Int32} {s : mG} (h : KV 0 2 v0 s) : pk (F_X0_bestPair_L35 x1 x2 x3 x4 x5 x6 s) (se (fun τ => KV 0 2 v0 τ.2.2.2.2.2) (fun τ => KV 0 2 v0 τ.2)) := by
  unfold F_X0_bestPair_L35
  refine pk_whl (fun v => KV 0 2 v0 v.2.2.2.2.2.2) h (fun v hv => ?_)
  obtain ⟨y0, y1, y2, y3, y4, y5, y6⟩ := v
  exact K_X0_bestPair_B35 hv
theorem K_X0_bestPair_B14 {v0 : Int32} {x1 : Int32} {x2 : Int32} {x3 : Int32} {x4 : Int32} {x5 : Int32} {s : mG} (h : KV 0 2 v0 s) : pk (F_X0_bestPair_B14 x1 x2 x3 x4 x5 s) (se (fun τ => KV 0 2 v0 τ.2.2.2.2.2) (fun τ => KV 0 2 v0 τ.2)) := by
  unfold F_X0_bestPair_B14
  refine pk_ite ?_ ?_
  · refine pk_ite ?_ ?_
    · exact pk_some h
    · refine pk_ite ?_ ?_
      · exact pk_some h
      · exact pk_some h
  · exact (K_X0_bestPair_L35 h)
theorem K_X0_bestPair_L14 {v0 : Int32} {x1 : Int32} {x2 : Int32} {x3 : Int32} {x4 : Int32} {x5 : Int32} {s : mG} (h : KV 0 2 v0 s) : pk (F_X0_bestPair_L14 x1 x2 x3 x4 x5 s) (fun τ => KV 0 2 v0 τ.2) := by
  unfold F_X0_bestPair_L14
  refine pk_whl (fun v => KV 0 2 v0 v.2.2.2.2.2) h (fun v hv => ?_)
  obtain ⟨y0, y1, y2, y3, y4, y5⟩ := v
  exact K_X0_bestPair_B14 hv
theorem K_X0_bestPair {v0 : Int32} {a1 : Int32} {s : mG} (h : KV 0 2 v0 s) : pk (F_X0_bestPair a1 s) (fun τ => KV 0 2 v0 τ.2) := by
  unfold F_X0_bestPair
  refine pk_b1 (K_X0_weighAll h) (fun s_1 (h_2 : KV 0 2 v0 s_1) => ?_)
  exact (K_X0_bestPair_L14 h_2)
theorem K_X0_keylessOut_52 {v0 : Int32} {x1 : Int32} {x2 : Int32} {s : mG} (h : KV 0 2 v0 s) : pk (F_X0_keylessOut_52 x1 x2 s) (se (fun τ => KV 0 2 v0 τ.2.2) (fun τ => KV 0 2 v0 τ.2)) := by
  unfold F_X0_keylessOut_52
  exact pk_some h
theorem K_X0_keylessOut_B8 {v0 : Int32} {x1 : Int32} {x2 : Int32} {s : mG} (h : KV 0 2 v0 s) : pk (F_X0_keylessOut_B8 x1 x2 s) (se (fun τ => KV 0 2 v0 τ.2.2) (fun τ => KV 0 2 v0 τ.2)) := by
  unfold F_X0_keylessOut_B8
  refine pk_ite ?_ ?_
  · exact pk_some h
  · refine pk_b1 pk_top (fun _ _ => ?_)
    refine pk_ite ?_ ?_
    · refine pk_b1 pk_top (fun _ _ => ?_)
      extract_lets +onlyGivenNames v_1
      clear_value v_1
      exact (K_X0_keylessOut_52 h)
    · exact (K_X0_keylessOut_52 h)
theorem K_X0_keylessOut_L8 {v0 : Int32} {x1 : Int32} {x2 : Int32} {s : mG} (h : KV 0 2 v0 s) : pk (F_X0_keylessOut_L8 x1 x2 s) (fun τ => KV 0 2 v0 τ.2) := by
  unfold F_X0_keylessOut_L8
  refine pk_whl (fun v => KV 0 2 v0 v.2.2) h (fun v hv => ?_)
  obtain ⟨y0, y1, y2⟩ := v
  exact K_X0_keylessOut_B8 hv
theorem K_X0_keylessOut {v0 : Int32} {s : mG} (h : KV 0 2 v0 s) : pk (F_X0_keylessOut s) (fun τ => KV 0 2 v0 τ.2) := by
  unfold F_X0_keylessOut
  refine pk_b1 (K_X0_weighAll h) (fun s_1 (h_2 : KV 0 2 v0 s_1) => ?_)
  exact (K_X0_keylessOut_L8 h_2)
theorem K_X1_bestVisit_108 {v0 : Int32} {x3 : Int32} {x4 : Int32} {x5 : Int32} {x6 : Int32} {x7 : Int32} {s : mG} (h : KV 0 2 v0 s) : pk (F_X1_bestVisit_108 x3 x4 x5 x6 x7 s) (se (fun τ => KV 0 2 v0 τ.2.2.2.2.2) (fun τ => KV 0 2 v0 τ.2)) := by
  unfold F_X1_bestVisit_108
  exact pk_some h
theorem K_X1_bestVisit_B20 {v0 : Int32} {x3 : Int32} {x4 : Int32} {x5 : Int32} {x6 : Int32} {x7 : Int32} {s : mG} (h : KV 0 2 v0 s) : pk (F_X1_bestVisit_B20 x3 x4 x5 x6 x7 s) (se (fun τ => KV 0 2 v0 τ.2.2.2.2.2) (fun τ => KV 0 2 v0 τ.2)) := by
  unfold F_X1_bestVisit_B20
  refine pk_ite ?_ ?_
  · refine pk_ite ?_ ?_
    · exact pk_some h
    · exact pk_some h
  · refine pk_b1 (K_X3_supposeHour h) (fun s_1 (h_2 : KV 0 2 v0 s_1) => ?_)
    refine pk_b2 (K_X3_tells h_2) (fun _ s_3 (h_4 : KV 0 2 v0 s_3) => ?_)
    extract_lets +onlyGivenNames v_5
    clear_value v_5
    refine pk_b2 (K_X3_tells h_4) (fun _ s_6 (h_7 : KV 0 2 v0 s_6) => ?_)
    extract_lets +onlyGivenNames v_8
    clear_value v_8
    refine pk_ite ?_ ?_
    · exact (K_X1_bestVisit_108 h_7)
    · exact (K_X1_bestVisit_108 h_7)
theorem K_X1_bestVisit_L20 {v0 : Int32} {x3 : Int32} {x4 : Int32} {x5 : Int32} {x6 : Int32} {x7 : Int32} {s : mG} (h : KV 0 2 v0 s) : pk (F_X1_bestVisit_L20 x3 x4 x5 x6 x7 s) (fun τ => KV 0 2 v0 τ.2) := by
  unfold F_X1_bestVisit_L20
  refine pk_whl (fun v => KV 0 2 v0 v.2.2.2.2.2) h (fun v hv => ?_)
  obtain ⟨y0, y1, y2, y3, y4, y5⟩ := v
  exact K_X1_bestVisit_B20 hv
theorem K_X1_bestVisit {v0 : Int32} {a1 : Int32} {a2 : Int32} {a3 : Int32} {s : mG} (h : KV 0 2 v0 s) : pk (F_X1_bestVisit a1 a2 a3 s) (fun τ => KV 0 2 v0 τ.2) := by
  unfold F_X1_bestVisit
  refine pk_b1 (K_X3_face h) (fun s_1 (h_2 : KV 0 2 v0 s_1) => ?_)
  exact (K_X1_bestVisit_L20 h_2)
theorem K_X3_suppose {v0 : Int32} {a1 : Int32} {a2 : Int32} {s : mG} (h : KV 0 2 v0 s) : pk (F_X3_suppose a1 a2 s) (fun τ => KV 0 2 v0 τ) := by
  unfold F_X3_suppose
  refine pk_b1 (K_X11_put (by decide) h) (fun s_1 (h_2 : KV 0 2 v0 s_1) => ?_)
  exact pk_some h_2
theorem K_X1_stillOut_B14 {v0 : Int32} {x1 : Int32} {x2 : Int32} {x3 : Int32} {x4 : Int32} {s : mG} (h : KV 0 2 v0 s) : pk (F_X1_stillOut_B14 x1 x2 x3 x4 s) (se (fun τ => KV 0 2 v0 τ.2.2.2.2) (fun τ => KV 0 2 v0 τ.2)) := by
  unfold F_X1_stillOut_B14
  refine pk_ite ?_ ?_
  · exact pk_some h
  · refine pk_b1 (K_X3_supposeHour h) (fun s_1 (h_2 : KV 0 2 v0 s_1) => ?_)
    refine pk_b1 pk_top (fun _ _ => ?_)
    refine pk_b1 (K_X3_suppose h_2) (fun s_3 (h_4 : KV 0 2 v0 s_3) => ?_)
    refine pk_b2 (K_X3_tells h_4) (fun _ s_5 (h_6 : KV 0 2 v0 s_5) => ?_)
    extract_lets +onlyGivenNames v_7
    clear_value v_7
    exact pk_some h_6
theorem K_X1_stillOut_L14 {v0 : Int32} {x1 : Int32} {x2 : Int32} {x3 : Int32} {x4 : Int32} {s : mG} (h : KV 0 2 v0 s) : pk (F_X1_stillOut_L14 x1 x2 x3 x4 s) (fun τ => KV 0 2 v0 τ.2) := by
  unfold F_X1_stillOut_L14
  refine pk_whl (fun v => KV 0 2 v0 v.2.2.2.2) h (fun v hv => ?_)
  obtain ⟨y0, y1, y2, y3, y4⟩ := v
  exact K_X1_stillOut_B14 hv
theorem K_X1_stillOut {v0 : Int32} {a1 : Int32} {a2 : Int32} {s : mG} (h : KV 0 2 v0 s) : pk (F_X1_stillOut a1 a2 s) (fun τ => KV 0 2 v0 τ.2) := by
  unfold F_X1_stillOut
  refine pk_b1 (K_X3_face h) (fun s_1 (h_2 : KV 0 2 v0 s_1) => ?_)
  exact (K_X1_stillOut_L14 h_2)
theorem K_X1_movesAt_56 {v0 : Int32} {x1 : Int32} {x3 : Int32} {y0 : Int32} {y2 : Int32} {s : mG} (h : KV 0 2 v0 s) : pk (F_X1_movesAt_56 x1 x3 y0 y2 s) (se (fun τ => KV 0 2 v0 τ.2.2.2) (fun τ => KV 0 2 v0 τ.2)) := by
  unfold F_X1_movesAt_56
  refine pk_b2 (K_X3_tells h) (fun _ s_1 (h_2 : KV 0 2 v0 s_1) => ?_)
  exact pk_some h_2
theorem K_X1_movesAt_B4 {v0 : Int32} {x1 : Int32} {x2 : Int32} {x3 : Int32} {s : mG} (h : KV 0 2 v0 s) : pk (F_X1_movesAt_B4 x1 x2 x3 s) (se (fun τ => KV 0 2 v0 τ.2.2.2) (fun τ => KV 0 2 v0 τ.2)) := by
  unfold F_X1_movesAt_B4
  refine pk_ite ?_ ?_
  · exact pk_some h
  · refine pk_b1 (K_X3_face h) (fun s_1 (h_2 : KV 0 2 v0 s_1) => ?_)
    refine pk_b1 (K_X3_suppose h_2) (fun s_3 (h_4 : KV 0 2 v0 s_3) => ?_)
    refine pk_b1 pk_top (fun _ _ => ?_)
    refine pk_ite ?_ ?_
    · exact (K_X1_movesAt_56 h_4)
    · exact (K_X1_movesAt_56 h_4)
theorem K_X1_movesAt_L4 {v0 : Int32} {x1 : Int32} {x2 : Int32} {x3 : Int32} {s : mG} (h : KV 0 2 v0 s) : pk (F_X1_movesAt_L4 x1 x2 x3 s) (fun τ => KV 0 2 v0 τ.2) := by
  unfold F_X1_movesAt_L4
  refine pk_whl (fun v => KV 0 2 v0 v.2.2.2) h (fun v hv => ?_)
  obtain ⟨y0, y1, y2, y3⟩ := v
  exact K_X1_movesAt_B4 hv
theorem K_X1_movesAt {v0 : Int32} {a1 : Int32} {s : mG} (h : KV 0 2 v0 s) : pk (F_X1_movesAt a1 s) (fun τ => KV 0 2 v0 τ.2) := by
  unfold F_X1_movesAt
  exact (K_X1_movesAt_L4 h)
theorem K_X1_movesNow {v0 : Int32} {s : mG} (h : KV 0 2 v0 s) : pk (F_X1_movesNow s) (fun τ => KV 0 2 v0 τ.2) := by
  unfold F_X1_movesNow
  refine pk_b2 (K_X1_movesAt h) (fun _ s_1 (h_2 : KV 0 2 v0 s_1) => ?_)
  exact pk_some h_2
theorem K_X1_busiestClock_34 {v0 : Int32} {x1 : Int32} {x2 : Int32} {x3 : Int32} {s : mG} (h : KV 0 2 v0 s) : pk (F_X1_busiestClock_34 x1 x2 x3 s) (se (fun τ => KV 0 2 v0 τ.2.2.2) (fun τ => KV 0 2 v0 τ.2)) := by
  unfold F_X1_busiestClock_34
  exact pk_some h
theorem K_X1_busiestClock_B10 {v0 : Int32} {x1 : Int32} {x2 : Int32} {x3 : Int32} {s : mG} (h : KV 0 2 v0 s) : pk (F_X1_busiestClock_B10 x1 x2 x3 s) (se (fun τ => KV 0 2 v0 τ.2.2.2) (fun τ => KV 0 2 v0 τ.2)) := by
  unfold F_X1_busiestClock_B10
  refine pk_ite ?_ ?_
  · exact pk_some h
  · refine pk_b2 (K_X1_movesAt h) (fun _ s_1 (h_2 : KV 0 2 v0 s_1) => ?_)
    refine pk_ite ?_ ?_
    · exact (K_X1_busiestClock_34 h_2)
    · exact (K_X1_busiestClock_34 h_2)
theorem K_X1_busiestClock_L10 {v0 : Int32} {x1 : Int32} {x2 : Int32} {x3 : Int32} {s : mG} (h : KV 0 2 v0 s) : pk (F_X1_busiestClock_L10 x1 x2 x3 s) (fun τ => KV 0 2 v0 τ.2) := by
  unfold F_X1_busiestClock_L10
  refine pk_whl (fun v => KV 0 2 v0 v.2.2.2) h (fun v hv => ?_)
  obtain ⟨y0, y1, y2, y3⟩ := v
  exact K_X1_busiestClock_B10 hv
theorem K_X1_busiestClock {v0 : Int32} {s : mG} (h : KV 0 2 v0 s) : pk (F_X1_busiestClock s) (fun τ => KV 0 2 v0 τ.2) := by
  unfold F_X1_busiestClock
  refine pk_b2 (K_X1_movesAt h) (fun _ s_1 (h_2 : KV 0 2 v0 s_1) => ?_)
  exact (K_X1_busiestClock_L10 h_2)
theorem K_X1_costOfTag_B6 {v0 : Int32} {x1 : Int32} {x2 : Int32} {x3 : Int32} {x4 : Int32} {x5 : Int32} {s : mG} (h : KV 0 2 v0 s) : pk (F_X1_costOfTag_B6 x1 x2 x3 x4 x5 s) (se (fun τ => KV 0 2 v0 τ.2.2.2.2.2) (fun τ => KV 0 2 v0 τ.2)) := by
  unfold F_X1_costOfTag_B6
  refine pk_ite ?_ ?_
  · extract_lets +onlyGivenNames v_1
    clear_value v_1
    exact pk_some h
  · refine pk_b1 (K_X3_face h) (fun s_2 (h_3 : KV 0 2 v0 s_2) => ?_)
    refine pk_b1 (K_X3_suppose h_3) (fun s_4 (h_5 : KV 0 2 v0 s_4) => ?_)
    refine pk_b2 (K_X3_tells h_5) (fun _ s_6 (h_7 : KV 0 2 v0 s_6) => ?_)
    exact pk_some h_7
theorem K_X1_costOfTag_L6 {v0 : Int32} {x1 : Int32} {x2 : Int32} {x3 : Int32} {x4 : Int32} {x5 : Int32} {s : mG} (h : KV 0 2 v0 s) : pk (F_X1_costOfTag_L6 x1 x2 x3 x4 x5 s) (fun τ => KV 0 2 v0 τ.2) := by
  unfold F_X1_costOfTag_L6
  refine pk_whl (fun v => KV 0 2 v0 v.2.2.2.2.2) h (fun v hv => ?_)
  obtain ⟨y0, y1, y2, y3, y4, y5⟩ := v
  exact K_X1_costOfTag_B6 hv
theorem K_X1_costOfTag {v0 : Int32} {a1 : Int32} {a2 : Int32} {a3 : Int32} {s : mG} (h : KV 0 2 v0 s) : pk (F_X1_costOfTag a1 a2 a3 s) (fun τ => KV 0 2 v0 τ.2) := by
  unfold F_X1_costOfTag
  exact (K_X1_costOfTag_L6 h)
theorem K_X1_bestTag_45 {v0 : Int32} {x1 : Int32} {x2 : Int32} {x3 : Int32} {x4 : Int32} {x5 : Int32} {s : mG} (h : KV 0 2 v0 s) : pk (F_X1_bestTag_45 x1 x2 x3 x4 x5 s) (se (fun τ => KV 0 2 v0 τ.2.2.2.2.2) (fun τ => KV 0 2 v0 τ.2)) := by
  unfold F_X1_bestTag_45
  exact pk_some h
theorem K_X1_bestTag_B14 {v0 : Int32} {x1 : Int32} {x2 : Int32} {x3 : Int32} {x4 : Int32} {x5 : Int32} {s : mG} (h : KV 0 2 v0 s) : pk (F_X1_bestTag_B14 x1 x2 x3 x4 x5 s) (se (fun τ => KV 0 2 v0 τ.2.2.2.2.2) (fun τ => KV 0 2 v0 τ.2)) := by
  unfold F_X1_bestTag_B14
  refine pk_ite ?_ ?_
  · exact pk_some h
  · refine pk_b2 (K_X1_costOfTag h) (fun _ s_1 (h_2 : KV 0 2 v0 s_1) => ?_)
    refine pk_ite ?_ ?_
    · exact (K_X1_bestTag_45 h_2)
    · exact (K_X1_bestTag_45 h_2)
theorem K_X1_bestTag_L14 {v0 : Int32} {x1 : Int32} {x2 : Int32} {x3 : Int32} {x4 : Int32} {x5 : Int32} {s : mG} (h : KV 0 2 v0 s) : pk (F_X1_bestTag_L14 x1 x2 x3 x4 x5 s) (fun τ => KV 0 2 v0 τ.2) := by
  unfold F_X1_bestTag_L14
  refine pk_whl (fun v => KV 0 2 v0 v.2.2.2.2.2) h (fun v hv => ?_)
  obtain ⟨y0, y1, y2, y3, y4, y5⟩ := v
  exact K_X1_bestTag_B14 hv
theorem K_X1_bestTag {v0 : Int32} {a1 : Int32} {a2 : Int32} {s : mG} (h : KV 0 2 v0 s) : pk (F_X1_bestTag a1 a2 s) (fun τ => KV 0 2 v0 τ.2) := by
  unfold F_X1_bestTag
  refine pk_b2 (K_X1_costOfTag h) (fun _ s_1 (h_2 : KV 0 2 v0 s_1) => ?_)
  exact (K_X1_bestTag_L14 h_2)
theorem K_X1_likeliestToCarry_49 {v0 : Int32} {x1 : Int32} {x2 : Int32} {x3 : Int32} {s : mG} (h : KV 0 2 v0 s) : pk (F_X1_likeliestToCarry_49 x1 x2 x3 s) (se (fun τ => KV 0 2 v0 τ.2.2.2) (fun τ => KV 0 2 v0 τ.2)) := by
  unfold F_X1_likeliestToCarry_49
  exact pk_some h
theorem K_X1_likeliestToCarry_B6 {v0 : Int32} {x1 : Int32} {x2 : Int32} {x3 : Int32} {s : mG} (h : KV 0 2 v0 s) : pk (F_X1_likeliestToCarry_B6 x1 x2 x3 s) (se (fun τ => KV 0 2 v0 τ.2.2.2) (fun τ => KV 0 2 v0 τ.2)) := by
  unfold F_X1_likeliestToCarry_B6
  refine pk_ite ?_ ?_
  · exact pk_some h
  · refine pk_b1 (K_X3_face h) (fun s_1 (h_2 : KV 0 2 v0 s_1) => ?_)
    refine pk_b2 (K_X3_tells h_2) (fun _ s_3 (h_4 : KV 0 2 v0 s_3) => ?_)
    refine pk_ite ?_ ?_
    · exact (K_X1_likeliestToCarry_49 h_4)
    · exact (K_X1_likeliestToCarry_49 h_4)
theorem K_X1_likeliestToCarry_L6 {v0 : Int32} {x1 : Int32} {x2 : Int32} {x3 : Int32} {s : mG} (h : KV 0 2 v0 s) : pk (F_X1_likeliestToCarry_L6 x1 x2 x3 s) (fun τ => KV 0 2 v0 τ.2) := by
  unfold F_X1_likeliestToCarry_L6
  refine pk_whl (fun v => KV 0 2 v0 v.2.2.2) h (fun v hv => ?_)
  obtain ⟨y0, y1, y2, y3⟩ := v
  exact K_X1_likeliestToCarry_B6 hv
theorem K_X1_likeliestToCarry {v0 : Int32} {s : mG} (h : KV 0 2 v0 s) : pk (F_X1_likeliestToCarry s) (fun τ => KV 0 2 v0 τ.2) := by
  unfold F_X1_likeliestToCarry
  exact (K_X1_likeliestToCarry_L6 h)
theorem K_X10_put_39 {v0 : Int32} {t : Nat} {x3 : Int32} {x4 : Int32} {y0 : Int32} {s : mG} (h : KV 0 2 v0 s) : pk (F_X10_put_39 t x3 x4 y0 s) (fun τ => KV 0 2 v0 τ) := by
  unfold F_X10_put_39
  refine pk_ite ?_ ?_
  · exact pk_some h
  · refine pk_ite ?_ ?_
    · exact pk_some h
    · refine pk_ite ?_ ?_
      · exact pk_some h
      · refine pk_nn ?_
        extract_lets +onlyGivenNames s_1
        have h_2 : KV 0 2 v0 s_1 := KV_mu h (Or.inl (by omega))
        clear_value s_1
        exact pk_some h_2
theorem K_X10_put_38 {v0 : Int32} {t : Nat} {x3 : Int32} {x4 : Int32} {s : mG} (h : KV 0 2 v0 s) : pk (F_X10_put_38 t x3 x4 s) (fun τ => KV 0 2 v0 τ) := by
  unfold F_X10_put_38
  exact (K_X10_put_39 h)
theorem K_X10_put {v0 : Int32} {t : Nat} {a1 : Int32} {a2 : Int32} {a3 : Int32} {s : mG} (h : KV 0 2 v0 s) : pk (F_X10_put t a1 a2 a3 s) (fun τ => KV 0 2 v0 τ) := by
  unfold F_X10_put
  extract_lets +onlyGivenNames v_1
  clear_value v_1
  refine pk_ite ?_ ?_
  · exact (K_X10_put_38 h)
  · refine pk_ite ?_ ?_
    · exact (K_X10_put_38 h)
    · refine pk_ite ?_ ?_
      · exact (K_X10_put_38 h)
      · refine pk_ite ?_ ?_
        · exact (K_X10_put_38 h)
        · exact (K_X10_put_39 h)
theorem K_X1_countGoings_92 {v0 : Int32} {x1 : Int32} {x2 : Int32} {x3 : Int32} {x4 : Int32} {s : mG} (h : KV 0 2 v0 s) : pk (F_X1_countGoings_92 x1 x2 x3 x4 s) (se (fun τ => KV 0 2 v0 τ.2.2.2.2) (fun τ => KV 0 2 v0 τ)) := by
  unfold F_X1_countGoings_92
  exact pk_some h
theorem K_X1_countGoings_B7 {v0 : Int32} {x1 : Int32} {x2 : Int32} {x3 : Int32} {x4 : Int32} {s : mG} (h : KV 0 2 v0 s) : pk (F_X1_countGoings_B7 x1 x2 x3 x4 s) (se (fun τ => KV 0 2 v0 τ.2.2.2.2) (fun τ => KV 0 2 v0 τ)) := by
  unfold F_X1_countGoings_B7
  refine pk_ite ?_ ?_
  · refine pk_b1 (K_X10_put h) (fun s_1 (h_2 : KV 0 2 v0 s_1) => ?_)
    refine pk_b1 (K_X10_put h_2) (fun s_3 (h_4 : KV 0 2 v0 s_3) => ?_)
    exact pk_some h_4
  · refine pk_b1 pk_top (fun _ _ => ?_)
    refine pk_ite ?_ ?_
    · refine pk_b1 (K_X3_face h) (fun s_5 (h_6 : KV 0 2 v0 s_5) => ?_)
      refine pk_b1 (K_X3_suppose h_6) (fun s_7 (h_8 : KV 0 2 v0 s_7) => ?_)
      refine pk_b2 (K_X3_tells h_8) (fun _ s_9 (h_10 : KV 0 2 v0 s_9) => ?_)
      refine pk_b2 (K_X3_tells h_10) (fun _ s_11 (h_12 : KV 0 2 v0 s_11) => ?_)
      extract_lets +onlyGivenNames v_13
      clear_value v_13
      exact (K_X1_countGoings_92 h_12)
    · exact (K_X1_countGoings_92 h)
theorem K_X1_countGoings_L7 {v0 : Int32} {x1 : Int32} {x2 : Int32} {x3 : Int32} {x4 : Int32} {s : mG} (h : KV 0 2 v0 s) : pk (F_X1_countGoings_L7 x1 x2 x3 x4 s) (fun τ => KV 0 2 v0 τ) := by
  unfold F_X1_countGoings_L7
  refine pk_whl (fun v => KV 0 2 v0 v.2.2.2.2) h (fun v hv => ?_)
  obtain ⟨y0, y1, y2, y3, y4⟩ := v
  exact K_X1_countGoings_B7 hv
theorem K_X1_countGoings {v0 : Int32} {a1 : Int32} {s : mG} (h : KV 0 2 v0 s) : pk (F_X1_countGoings a1 s) (fun τ => KV 0 2 v0 τ) := by
  unfold F_X1_countGoings
  exact (K_X1_countGoings_L7 h)
theorem K_X10_add {v0 : Int32} {t : Nat} {s : mG} (h : KV 0 2 v0 s) : pk (F_X10_add t s) (fun τ => KV 0 2 v0 τ.2) := by
  unfold F_X10_add
  refine pk_b1 pk_top (fun _ _ => ?_)
  refine pk_ite ?_ ?_
  · extract_lets +onlyGivenNames s_1
    have h_2 : KV 0 2 v0 s_1 := KV_mu h (Or.inr (by decide))
    clear_value s_1
    exact pk_some h_2
  · exact pk_some h
theorem K_X10_clear {v0 : Int32} {t : Nat} {s : mG} (h : KV 0 2 v0 s) : pk (F_X10_clear t s) (fun τ => KV 0 2 v0 τ) := by
  unfold F_X10_clear
  extract_lets +onlyGivenNames s_1
  have h_2 : KV 0 2 v0 s_1 := KV_mu h (Or.inr (by decide))
  clear_value s_1
  exact pk_some h_2
theorem K_X1_plan_B58 {v0 : Int32} {x1 : Int32} {x2 : Int32} {x3 : Int32} {s : mG} (h : KV 0 2 v0 s) : pk (F_X1_plan_B58 x1 x2 x3 s) (se (fun τ => KV 0 2 v0 τ.2.2.2) (se (fun τ => KV 0 2 v0 τ.2.2) (fun τ => KV 0 2 v0 τ))) := by
  unfold F_X1_plan_B58
  refine pk_ite ?_ ?_
  · exact pk_some h
  · refine pk_b1 pk_top (fun _ _ => ?_)
    refine pk_b1 pk_top (fun _ _ => ?_)
    refine pk_b1 pk_top (fun _ _ => ?_)
    refine pk_b1 (K_X10_put h) (fun s_1 (h_2 : KV 0 2 v0 s_1) => ?_)
    exact pk_some h_2
theorem K_X1_plan_L58 {v0 : Int32} {x1 : Int32} {x2 : Int32} {x3 : Int32} {s : mG} (h : KV 0 2 v0 s) : pk (F_X1_plan_L58 x1 x2 x3 s) (se (fun τ => KV 0 2 v0 τ.2.2) (fun τ => KV 0 2 v0 τ)) := by
  unfold F_X1_plan_L58
  refine pk_whl (fun v => KV 0 2 v0 v.2.2.2) h (fun v hv => ?_)
  obtain ⟨y0, y1, y2, y3⟩ := v
  exact K_X1_plan_B58 hv
theorem K_X1_plan_B52 {v0 : Int32} {x1 : Int32} {x2 : Int32} {s : mG} (h : KV 0 2 v0 s) : pk (F_X1_plan_B52 x1 x2 s) (se (fun τ => KV 0 2 v0 τ.2.2) (fun τ => KV 0 2 v0 τ)) := by
  unfold F_X1_plan_B52
  refine pk_ite ?_ ?_
  · exact pk_some h
  · exact (K_X1_plan_L58 h)
theorem K_X1_plan_L52 {v0 : Int32} {x1 : Int32} {x2 : Int32} {s : mG} (h : KV 0 2 v0 s) : pk (F_X1_plan_L52 x1 x2 s) (fun τ => KV 0 2 v0 τ) := by
  unfold F_X1_plan_L52
  refine pk_whl (fun v => KV 0 2 v0 v.2.2) h (fun v hv => ?_)
  obtain ⟨y0, y1, y2⟩ := v
  exact K_X1_plan_B52 hv
theorem K_X1_plan_B16 {v0 : Int32} {x1 : Int32} {x2 : Int32} {s : mG} (h : KV 0 2 v0 s) : pk (F_X1_plan_B16 x1 x2 s) (se (fun τ => KV 0 2 v0 τ.2.2) (fun τ => KV 0 2 v0 τ)) := by
  unfold F_X1_plan_B16
  refine pk_ite ?_ ?_
  · refine pk_b1r ?_
    exact (K_X1_plan_L52 h)
  · refine pk_b2 (K_X10_add h) (fun _ s_1 (h_2 : KV 0 2 v0 s_1) => ?_)
    refine pk_b2 (K_X10_add h_2) (fun _ s_3 (h_4 : KV 0 2 v0 s_3) => ?_)
    refine pk_b1 (K_X1_countGoings h_4) (fun s_5 (h_6 : KV 0 2 v0 s_5) => ?_)
    exact pk_some h_6
theorem K_X1_plan_L16 {v0 : Int32} {x1 : Int32} {x2 : Int32} {s : mG} (h : KV 0 2 v0 s) : pk (F_X1_plan_L16 x1 x2 s) (fun τ => KV 0 2 v0 τ) := by
  unfold F_X1_plan_L16
  refine pk_whl (fun v => KV 0 2 v0 v.2.2) h (fun v hv => ?_)
  obtain ⟨y0, y1, y2⟩ := v
  exact K_X1_plan_B16 hv
theorem K_X1_plan {v0 : Int32} {a1 : Int32} {s : mG} (h : KV 0 2 v0 s) : pk (F_X1_plan a1 s) (fun τ => KV 0 2 v0 τ) := by
  unfold F_X1_plan
  refine pk_b1 (K_X10_clear h) (fun s_1 (h_2 : KV 0 2 v0 s_1) => ?_)
  refine pk_b1 (K_X10_clear h_2) (fun s_3 (h_4 : KV 0 2 v0 s_3) => ?_)
  exact (K_X1_plan_L16 h_4)
theorem K_X10_copyFrom_B27 {v0 : Int32} {t : Nat} {a1 : Nat} {x2 : Int32} {x3 : Int32} {s : mG} (h : KV 0 2 v0 s) : pk (F_X10_copyFrom_B27 t a1 x2 x3 s) (se (fun τ => KV 0 2 v0 τ.2.2) (fun τ => KV 0 2 v0 τ)) := by
  unfold F_X10_copyFrom_B27
  refine pk_ite ?_ ?_
  · exact pk_some h
  · refine pk_ite ?_ ?_
    · exact pk_some h
    · refine pk_ite ?_ ?_
      · exact pk_some h
      · refine pk_nn ?_
        refine pk_nn ?_
        extract_lets +onlyGivenNames s_1
        have h_2 : KV 0 2 v0 s_1 := KV_mu h (Or.inl (by omega))
        clear_value s_1
        exact pk_some h_2
theorem K_X10_copyFrom_L27 {v0 : Int32} {t : Nat} {a1 : Nat} {x2 : Int32} {x3 : Int32} {s : mG} (h : KV 0 2 v0 s) : pk (F_X10_copyFrom_L27 t a1 x2 x3 s) (fun τ => KV 0 2 v0 τ) := by
  unfold F_X10_copyFrom_L27
  refine pk_whl (fun v => KV 0 2 v0 v.2.2) h (fun v hv => ?_)
  obtain ⟨y0, y1, y2⟩ := v
  exact K_X10_copyFrom_B27 hv
theorem K_X10_copyFrom {v0 : Int32} {t : Nat} {a1 : Nat} {s : mG} (h : KV 0 2 v0 s) : pk (F_X10_copyFrom t a1 s) (fun τ => KV 0 2 v0 τ) := by
  unfold F_X10_copyFrom
  extract_lets +onlyGivenNames s_1
  have h_2 : KV 0 2 v0 s_1 := KV_mu h (Or.inr (by decide))
  clear_value s_1
  extract_lets +onlyGivenNames v_3
  clear_value v_3
  exact (K_X10_copyFrom_L27 h_2)
theorem K_X2_copyFrom {v0 : Int32} {hh : Nat} {a1 : Nat} {s : mG} (h : KV 0 2 v0 s) : pk (F_X2_copyFrom hh a1 s) (fun τ => KV 0 2 v0 τ) := by
  unfold F_X2_copyFrom
  refine pk_b1 (K_X10_copyFrom h) (fun s_1 (h_2 : KV 0 2 v0 s_1) => ?_)
  refine pk_b1 (K_X10_copyFrom h_2) (fun s_3 (h_4 : KV 0 2 v0 s_3) => ?_)
  refine pk_b1 (K_X10_copyFrom h_4) (fun s_5 (h_6 : KV 0 2 v0 s_5) => ?_)
  refine pk_b1 (K_X10_copyFrom h_6) (fun s_7 (h_8 : KV 0 2 v0 s_7) => ?_)
  refine pk_b1 (K_X10_copyFrom h_8) (fun s_9 (h_10 : KV 0 2 v0 s_9) => ?_)
  refine pk_b1 (K_X10_copyFrom h_10) (fun s_11 (h_12 : KV 0 2 v0 s_11) => ?_)
  refine pk_b1 (K_X10_copyFrom h_12) (fun s_13 (h_14 : KV 0 2 v0 s_13) => ?_)
  refine pk_b1 (K_X10_copyFrom h_14) (fun s_15 (h_16 : KV 0 2 v0 s_15) => ?_)
  extract_lets +onlyGivenNames s_17
  have h_18 : KV 0 2 v0 s_17 := KV_mu h_16 (Or.inr (by decide))
  clear_value s_17
  extract_lets +onlyGivenNames s_19
  have h_20 : KV 0 2 v0 s_19 := KV_mu h_18 (Or.inr (by decide))
  clear_value s_19
  extract_lets +onlyGivenNames s_21
  have h_22 : KV 0 2 v0 s_21 := KV_mu h_20 (Or.inr (by decide))
  clear_value s_21
  extract_lets +onlyGivenNames s_23
  have h_24 : KV 0 2 v0 s_23 := KV_mu h_22 (Or.inr (by decide))
  clear_value s_23
  exact pk_some h_24
theorem K_X2_forgetSeenOf_B2 {v0 : Int32} {hh : Nat} {x1 : Int32} {x2 : Int32} {s : mG} (h : KV 0 2 v0 s) : pk (F_X2_forgetSeenOf_B2 hh x1 x2 s) (se (fun τ => KV 0 2 v0 τ.2.2) (fun τ => KV 0 2 v0 τ)) := by
  unfold F_X2_forgetSeenOf_B2
  refine pk_ite ?_ ?_
  · exact pk_some h
  · refine pk_b1 (K_X10_put h) (fun s_1 (h_2 : KV 0 2 v0 s_1) => ?_)
    exact pk_some h_2
theorem K_X2_forgetSeenOf_L2 {v0 : Int32} {hh : Nat} {x1 : Int32} {x2 : Int32} {s : mG} (h : KV 0 2 v0 s) : pk (F_X2_forgetSeenOf_L2 hh x1 x2 s) (fun τ => KV 0 2 v0 τ) := by
  unfold F_X2_forgetSeenOf_L2
  refine pk_whl (fun v => KV 0 2 v0 v.2.2) h (fun v hv => ?_)
  obtain ⟨y0, y1, y2⟩ := v
  exact K_X2_forgetSeenOf_B2 hv
theorem K_X2_forgetSeenOf {v0 : Int32} {hh : Nat} {a1 : Int32} {s : mG} (h : KV 0 2 v0 s) : pk (F_X2_forgetSeenOf hh a1 s) (fun τ => KV 0 2 v0 τ) := by
  unfold F_X2_forgetSeenOf
  exact (K_X2_forgetSeenOf_L2 h)
theorem K_X2_addGuest {v0 : Int32} {hh : Nat} {a1 : Int32} {a2 : Int32} {s : mG} (h : KV 0 2 v0 s) : pk (F_X2_addGuest hh a1 a2 s) (fun τ => KV 0 2 v0 τ.2) := by
  unfold F_X2_addGuest
  refine pk_b2 (K_X10_add h) (fun _ s_1 (h_2 : KV 0 2 v0 s_1) => ?_)
  refine pk_b1 (K_X10_put h_2) (fun s_3 (h_4 : KV 0 2 v0 s_3) => ?_)
  refine pk_b1 (K_X10_put h_4) (fun s_5 (h_6 : KV 0 2 v0 s_5) => ?_)
  refine pk_b1 (K_X10_put h_6) (fun s_7 (h_8 : KV 0 2 v0 s_7) => ?_)
  refine pk_b1 (K_X10_put h_8) (fun s_9 (h_10 : KV 0 2 v0 s_9) => ?_)
  refine pk_b1 (K_X10_put h_10) (fun s_11 (h_12 : KV 0 2 v0 s_11) => ?_)
  refine pk_b1 (K_X2_forgetSeenOf h_12) (fun s_13 (h_14 : KV 0 2 v0 s_13) => ?_)
  exact pk_some h_14
theorem K_X2_forgetSeen_B2 {v0 : Int32} {hh : Nat} {x1 : Int32} {s : mG} (h : KV 0 2 v0 s) : pk (F_X2_forgetSeen_B2 hh x1 s) (se (fun τ => KV 0 2 v0 τ.2) (fun τ => KV 0 2 v0 τ)) := by
  unfold F_X2_forgetSeen_B2
  refine pk_ite ?_ ?_
  · exact pk_some h
  · refine pk_b1 (K_X2_forgetSeenOf h) (fun s_1 (h_2 : KV 0 2 v0 s_1) => ?_)
    exact pk_some h_2
theorem K_X2_forgetSeen_L2 {v0 : Int32} {hh : Nat} {x1 : Int32} {s : mG} (h : KV 0 2 v0 s) : pk (F_X2_forgetSeen_L2 hh x1 s) (fun τ => KV 0 2 v0 τ) := by
  unfold F_X2_forgetSeen_L2
  refine pk_whl (fun v => KV 0 2 v0 v.2) h (fun v hv => ?_)
  obtain ⟨y0, y1⟩ := v
  exact K_X2_forgetSeen_B2 hv
theorem K_X2_forgetSeen {v0 : Int32} {hh : Nat} {s : mG} (h : KV 0 2 v0 s) : pk (F_X2_forgetSeen hh s) (fun τ => KV 0 2 v0 τ) := by
  unfold F_X2_forgetSeen
  exact (K_X2_forgetSeen_L2 h)
theorem K_X2_drawThousand {v0 : Int32} {hh : Nat} {s : mG} (h : KV 0 2 v0 s) : pk (F_X2_drawThousand hh s) (fun τ => KV 0 2 v0 τ.2) := by
  unfold F_X2_drawThousand
  extract_lets +onlyGivenNames s_1
  have h_2 : KV 0 2 v0 s_1 := KV_mu h (Or.inr (by decide))
  clear_value s_1
  extract_lets +onlyGivenNames v_3
  clear_value v_3
  exact pk_some h_2
theorem K_X2_write {v0 : Int32} {hh : Nat} {a1 : Int32} {a2 : Int32} {a3 : Int32} {a4 : Int32} {s : mG} (h : KV 0 2 v0 s) : pk (F_X2_write hh a1 a2 a3 a4 s) (fun τ => KV 0 2 v0 τ) := by
  unfold F_X2_write
  refine pk_b1 pk_top (fun _ _ => ?_)
  refine pk_ite ?_ ?_
  · refine pk_b2 (K_X10_add h) (fun _ s_1 (h_2 : KV 0 2 v0 s_1) => ?_)
    refine pk_b1 (K_X10_put h_2) (fun s_3 (h_4 : KV 0 2 v0 s_3) => ?_)
    refine pk_b1 (K_X10_put h_4) (fun s_5 (h_6 : KV 0 2 v0 s_5) => ?_)
    refine pk_b1 (K_X10_put h_6) (fun s_7 (h_8 : KV 0 2 v0 s_7) => ?_)
    refine pk_b1 (K_X10_put h_8) (fun s_9 (h_10 : KV 0 2 v0 s_9) => ?_)
    refine pk_b1 (K_X10_put h_10) (fun s_11 (h_12 : KV 0 2 v0 s_11) => ?_)
    exact pk_some h_12
  · exact pk_some h
theorem K_X4_takeFrom {v0 : Int32} {mo : Nat} {a1 : Nat} {s : mG} (hm : mo ≠ 0) (h : KV 0 2 v0 s) : pk (F_X4_takeFrom mo a1 s) (fun τ => KV 0 2 v0 τ) := by
  unfold F_X4_takeFrom
  refine pk_b1 (K_X10_copyFrom h) (fun s_1 (h_2 : KV 0 2 v0 s_1) => ?_)
  extract_lets +onlyGivenNames s_3
  have h_4 : KV 0 2 v0 s_3 := KV_mu h_2 (Or.inl (Ne.symm hm))
  clear_value s_3
  extract_lets +onlyGivenNames s_5
  have h_6 : KV 0 2 v0 s_5 := KV_mu h_4 (Or.inl (Ne.symm hm))
  clear_value s_5
  extract_lets +onlyGivenNames s_7
  have h_8 : KV 0 2 v0 s_7 := KV_mu h_6 (Or.inl (Ne.symm hm))
  clear_value s_7
  exact pk_some h_8
theorem K_X4_giveTo {v0 : Int32} {mo : Nat} {a1 : Nat} {s : mG} (hm : mo ≠ 0) (h : KV 0 2 v0 s) : pk (F_X4_giveTo mo a1 s) (fun τ => KV 0 2 v0 τ) := by
  unfold F_X4_giveTo
  refine pk_b1 (K_X10_copyFrom h) (fun s_1 (h_2 : KV 0 2 v0 s_1) => ?_)
  extract_lets +onlyGivenNames s_3
  have h_4 : KV 0 2 v0 s_3 := KV_mu h_2 (Or.inl (by omega))
  clear_value s_3
  extract_lets +onlyGivenNames s_5
  have h_6 : KV 0 2 v0 s_5 := KV_mu h_4 (Or.inr (by decide))
  clear_value s_5
  extract_lets +onlyGivenNames s_7
  have h_8 : KV 0 2 v0 s_7 := KV_mu h_6 (Or.inr (by decide))
  clear_value s_7
  exact pk_some h_8
theorem K_X5_forget {v0 : Int32} {s : mG} (h : KV 0 2 v0 s) : pk (F_X5_forget s) (fun τ => KV 0 2 v0 τ) := by
  unfold F_X5_forget
  extract_lets +onlyGivenNames s_1
  have h_2 : KV 0 2 v0 s_1 := KV_mu h (Or.inl (by decide))
  clear_value s_1
  exact pk_some h_2
theorem K_X5_keep {v0 : Int32} {a1 : Nat} {s : mG} (h : KV 0 2 v0 s) : pk (F_X5_keep a1 s) (fun τ => KV 0 2 v0 τ) := by
  unfold F_X5_keep
  refine pk_bo ?_ (fun o1 ho1 => ?_)
  · exact pk_some h
  · refine pk_b1 (K_X4_takeFrom (isM_ne0 (momM ho1)) h) (fun s_2 (h_3 : KV 0 2 v0 s_2) => ?_)
    extract_lets +onlyGivenNames s_4
    have h_5 : KV 0 2 v0 s_4 := KV_mu h_3 (Or.inl (by decide))
    clear_value s_4
    extract_lets +onlyGivenNames s_6
    have h_7 : KV 0 2 v0 s_6 := KV_mu h_5 (Or.inl (by decide))
    clear_value s_6
    exact pk_some h_7
theorem K_X5_giveBack_30 {v0 : Int32} {a1 : Nat} {s : mG} (h : KV 0 2 v0 s) : pk (F_X5_giveBack_30 a1 s) (fun τ => KV 0 2 v0 τ.2) := by
  unfold F_X5_giveBack_30
  exact pk_some h
theorem K_X5_giveBack {v0 : Int32} {a1 : Nat} {s : mG} (h : KV 0 2 v0 s) : pk (F_X5_giveBack a1 s) (fun τ => KV 0 2 v0 τ.2) := by
  unfold F_X5_giveBack
  extract_lets +onlyGivenNames v_1
  clear_value v_1
  refine pk_bo ?_ (fun o1 ho1 => ?_)
  · refine pk_ite ?_ ?_
    · exact (K_X5_giveBack_30 h)
    · exact (K_X5_giveBack_30 h)
  · refine pk_ite ?_ ?_
    · exact (K_X5_giveBack_30 h)
    · refine pk_b1 (K_X4_giveTo (isM_ne0 (momM ho1)) h) (fun s_3 (h_4 : KV 0 2 v0 s_3) => ?_)
      extract_lets +onlyGivenNames s_5
      have h_6 : KV 0 2 v0 s_5 := KV_mu h_4 (Or.inl (by decide))
      clear_value s_5
      extract_lets +onlyGivenNames s_7
      have h_8 : KV 0 2 v0 s_7 := KV_mu h_6 (Or.inl (by decide))
      clear_value s_7
      exact pk_some h_8
theorem K_X6_ask_B10 {v0 : Int32} {x2 : Int32} {s : mG} (h : KV 0 2 v0 s) : pk (F_X6_ask_B10 x2 s) (se (fun τ => KV 0 2 v0 τ.2) (fun τ => KV 0 2 v0 τ)) := by
  unfold F_X6_ask_B10
  refine pk_ite ?_ ?_
  · exact pk_some h
  · refine pk_b2 (K_X3_tells h) (fun _ s_1 (h_2 : KV 0 2 v0 s_1) => ?_)
    refine pk_nn ?_
    extract_lets +onlyGivenNames s_3
    have h_4 : KV 0 2 v0 s_3 := KV_mu h_2 (Or.inl (by decide))
    clear_value s_3
    exact pk_some h_4
theorem K_X6_ask_L10 {v0 : Int32} {x2 : Int32} {s : mG} (h : KV 0 2 v0 s) : pk (F_X6_ask_L10 x2 s) (fun τ => KV 0 2 v0 τ) := by
  unfold F_X6_ask_L10
  refine pk_whl (fun v => KV 0 2 v0 v.2) h (fun v hv => ?_)
  obtain ⟨y0, y1⟩ := v
  exact K_X6_ask_B10 hv
theorem K_X6_ask {v0 : Int32} {a1 : Int32} {s : mG} (h : KV 0 2 v0 s) : pk (F_X6_ask a1 s) (fun τ => KV 0 2 v0 τ) := by
  unfold F_X6_ask
  refine pk_b1 (K_X3_face h) (fun s_1 (h_2 : KV 0 2 v0 s_1) => ?_)
  exact (K_X6_ask_L10 h_2)
theorem K_X6_isDrawn {v0 : Int32} {a1 : Int32} {s : mG} (h : KV 0 2 v0 s) : pk (F_X6_isDrawn a1 s) (fun τ => KV 0 2 v0 τ.2) := by
  unfold F_X6_isDrawn
  refine pk_b2 (K_X2_drawThousand h) (fun _ s_1 (h_2 : KV 0 2 v0 s_1) => ?_)
  refine pk_b1 pk_top (fun _ _ => ?_)
  refine pk_ite ?_ ?_
  · exact pk_some h_2
  · exact pk_some h_2
theorem K_X6_hangKey_51 {v0 : Int32} {x1 : Int32} {x2 : Int32} {s : mG} (h : KV 0 2 v0 s) : pk (F_X6_hangKey_51 x1 x2 s) (fun τ => KV 0 2 v0 τ) := by
  unfold F_X6_hangKey_51
  refine pk_b1 pk_top (fun _ _ => ?_)
  refine pk_ite ?_ ?_
  · refine pk_b1 (K_X10_put h) (fun s_1 (h_2 : KV 0 2 v0 s_1) => ?_)
    exact pk_some h_2
  · exact pk_some h
theorem K_X6_hangKey_50 {v0 : Int32} {x1 : Int32} {y0 : Int32} {s : mG} (h : KV 0 2 v0 s) : pk (F_X6_hangKey_50 x1 y0 s) (fun τ => KV 0 2 v0 τ) := by
  unfold F_X6_hangKey_50
  exact (K_X6_hangKey_51 h)
theorem K_X6_hangKey_33 {v0 : Int32} {x1 : Int32} {y0 : Int32} {s : mG} (h : KV 0 2 v0 s) : pk (F_X6_hangKey_33 x1 y0 s) (fun τ => KV 0 2 v0 τ) := by
  unfold F_X6_hangKey_33
  refine pk_b1 pk_top (fun _ _ => ?_)
  refine pk_ite ?_ ?_
  · exact (K_X6_hangKey_50 h)
  · exact (K_X6_hangKey_50 h)
theorem K_X6_hangKey {v0 : Int32} {a1 : Int32} {s : mG} (h : KV 0 2 v0 s) : pk (F_X6_hangKey a1 s) (fun τ => KV 0 2 v0 τ) := by
  unfold F_X6_hangKey
  refine pk_b2 (K_X6_isDrawn h) (fun _ s_1 (h_2 : KV 0 2 v0 s_1) => ?_)
  refine pk_ite ?_ ?_
  · exact (K_X6_hangKey_51 h_2)
  · refine pk_ite ?_ ?_
    · exact (K_X6_hangKey_33 h_2)
    · exact (K_X6_hangKey_33 h_2)
theorem K_X6_goes_50 {v0 : Int32} {x1 : Int32} {x2 : Int32} {s : mG} (h : KV 0 2 v0 s) : pk (F_X6_goes_50 x1 x2 s) (fun τ => KV 0 2 v0 τ.2) := by
  unfold F_X6_goes_50
  refine pk_b1 pk_top (fun _ _ => ?_)
  refine pk_b1 (K_X2_write h) (fun s_1 (h_2 : KV 0 2 v0 s_1) => ?_)
  exact pk_some h_2
theorem K_X6_goes_36 {v0 : Int32} {x1 : Int32} {y0 : Int32} {s : mG} (h : KV 0 2 v0 s) : pk (F_X6_goes_36 x1 y0 s) (fun τ => KV 0 2 v0 τ.2) := by
  unfold F_X6_goes_36
  refine pk_b2 (K_X6_isDrawn h) (fun _ s_1 (h_2 : KV 0 2 v0 s_1) => ?_)
  refine pk_ite ?_ ?_
  · refine pk_b1 (K_X6_hangKey h_2) (fun s_3 (h_4 : KV 0 2 v0 s_3) => ?_)
    exact (K_X6_goes_50 h_4)
  · exact (K_X6_goes_50 h_2)
theorem K_X6_goes {v0 : Int32} {a1 : Int32} {s : mG} (h : KV 0 2 v0 s) : pk (F_X6_goes a1 s) (fun τ => KV 0 2 v0 τ.2) := by
  unfold F_X6_goes
  refine pk_b2 (K_X6_isDrawn h) (fun _ s_1 (h_2 : KV 0 2 v0 s_1) => ?_)
  refine pk_ite ?_ ?_
  · exact pk_some h_2
  · refine pk_b1 (K_X10_put h_2) (fun s_3 (h_4 : KV 0 2 v0 s_3) => ?_)
    refine pk_b2 (K_X6_isDrawn h_4) (fun _ s_5 (h_6 : KV 0 2 v0 s_5) => ?_)
    refine pk_ite ?_ ?_
    · exact (K_X6_goes_36 h_6)
    · exact (K_X6_goes_36 h_6)
theorem K_X6_comes_49 {v0 : Int32} {x1 : Int32} {y0 : Int32} {s : mG} (h : KV 0 2 v0 s) : pk (F_X6_comes_49 x1 y0 s) (fun τ => KV 0 2 v0 τ.2) := by
  unfold F_X6_comes_49
  refine pk_b1 pk_top (fun _ _ => ?_)
  refine pk_b1 (K_X2_write h) (fun s_1 (h_2 : KV 0 2 v0 s_1) => ?_)
  exact pk_some h_2
theorem K_X6_comes {v0 : Int32} {a1 : Int32} {s : mG} (h : KV 0 2 v0 s) : pk (F_X6_comes a1 s) (fun τ => KV 0 2 v0 τ.2) := by
  unfold F_X6_comes
  refine pk_b2 (K_X6_isDrawn h) (fun _ s_1 (h_2 : KV 0 2 v0 s_1) => ?_)
  refine pk_ite ?_ ?_
  · exact pk_some h_2
  · refine pk_b1 (K_X10_put h_2) (fun s_3 (h_4 : KV 0 2 v0 s_3) => ?_)
    refine pk_b1 (K_X10_put h_4) (fun s_5 (h_6 : KV 0 2 v0 s_5) => ?_)
    refine pk_b2 (K_X6_isDrawn h_6) (fun _ s_7 (h_8 : KV 0 2 v0 s_7) => ?_)
    refine pk_ite ?_ ?_
    · exact (K_X6_comes_49 h_8)
    · exact (K_X6_comes_49 h_8)
theorem K_X6_passHour_101 {v0 : Int32} {x1 : Int32} {x2 : Int32} {y1 : Int32} {y2 : Int32} {y3 : Int32} {s : mG} (h : KV 0 2 v0 s) : pk (F_X6_passHour_101 x1 x2 y1 y2 y3 s) (se (fun τ => KV 0 2 v0 τ.2.2) (fun τ => KV 0 2 v0 τ.2)) := by
  unfold F_X6_passHour_101
  refine pk_b1 (K_X10_put h) (fun s_1 (h_2 : KV 0 2 v0 s_1) => ?_)
  exact pk_some h_2
theorem K_X6_passHour_58 {v0 : Int32} {x2 : Int32} {x3 : Int32} {y0 : Int32} {y1 : Int32} {s : mG} (h : KV 0 2 v0 s) : pk (F_X6_passHour_58 x2 x3 y0 y1 s) (se (fun τ => KV 0 2 v0 τ.2.2) (fun τ => KV 0 2 v0 τ.2)) := by
  unfold F_X6_passHour_58
  refine pk_b1 pk_top (fun _ _ => ?_)
  extract_lets +onlyGivenNames v_1
  clear_value v_1
  refine pk_ite ?_ ?_
  · exact (K_X6_passHour_101 h)
  · exact (K_X6_passHour_101 h)
theorem K_X6_passHour_47 {v0 : Int32} {x1 : Int32} {x2 : Int32} {y0 : Int32} {s : mG} (h : KV 0 2 v0 s) : pk (F_X6_passHour_47 x1 x2 y0 s) (se (fun τ => KV 0 2 v0 τ.2.2) (fun τ => KV 0 2 v0 τ.2)) := by
  unfold F_X6_passHour_47
  refine pk_ite ?_ ?_
  · exact (K_X6_passHour_58 h)
  · exact (K_X6_passHour_58 h)
theorem K_X6_passHour_B4 {v0 : Int32} {x1 : Int32} {x2 : Int32} {s : mG} (h : KV 0 2 v0 s) : pk (F_X6_passHour_B4 x1 x2 s) (se (fun τ => KV 0 2 v0 τ.2.2) (fun τ => KV 0 2 v0 τ.2)) := by
  unfold F_X6_passHour_B4
  refine pk_ite ?_ ?_
  · extract_lets +onlyGivenNames s_1
    have h_2 : KV 0 2 v0 s_1 := KV_mu h (Or.inl (by decide))
    clear_value s_1
    exact pk_some h_2
  · refine pk_b1 (K_X6_ask h) (fun s_3 (h_4 : KV 0 2 v0 s_3) => ?_)
    refine pk_b1 pk_top (fun _ _ => ?_)
    refine pk_ite ?_ ?_
    · refine pk_b2 (K_X6_goes h_4) (fun _ s_5 (h_6 : KV 0 2 v0 s_5) => ?_)
      exact (K_X6_passHour_47 h_6)
    · refine pk_b2 (K_X6_comes h_4) (fun _ s_7 (h_8 : KV 0 2 v0 s_7) => ?_)
      exact (K_X6_passHour_47 h_8)
end
