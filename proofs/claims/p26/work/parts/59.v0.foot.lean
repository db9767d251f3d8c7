noncomputable section
theorem W_X0_glanceAt_B2 {M : Nat} {z : mG} {x1 : Int32} {x2 : Int32} {s : mG} (hM : sub 18889465931478580854784 M) (h : KB M z s) : pk (F_X0_glanceAt_B2 x1 x2 s) (se (fun τ => KB M z τ.2.2) (fun τ => KB M z τ)) := by
  unfold F_X0_glanceAt_B2
  refine pk_ite ?_ ?_
  · exact pk_some h
  · refine pk_b1 pk_top (fun _ _ => ?_)
    refine pk_nn ?_
    extract_lets +onlyGivenNames s_1
    have h_2 : KB M z s_1 := KB_mu h (hM 74 (by decide +kernel))
    clear_value s_1
    exact pk_some h_2
theorem W_X0_glanceAt_L2 {M : Nat} {z : mG} {x1 : Int32} {x2 : Int32} {s : mG} (hM : sub 18889465931478580854784 M) (h : KB M z s) : pk (F_X0_glanceAt_L2 x1 x2 s) (fun τ => KB M z τ) := by
  unfold F_X0_glanceAt_L2
  refine pk_whl (fun v => KB M z v.2.2) h (fun v hv => ?_)
  obtain ⟨y0, y1, y2⟩ := v
  exact W_X0_glanceAt_B2 (sub_tr (by decide +kernel) hM) hv
theorem W_X0_glanceAt {M : Nat} {z : mG} {a1 : Int32} {s : mG} (hM : sub 18889465931478580854784 M) (h : KB M z s) : pk (F_X0_glanceAt a1 s) (fun τ => KB M z τ) := by
  unfold F_X0_glanceAt
  exact (W_X0_glanceAt_L2 (sub_tr (by decide +kernel) hM) h)
theorem W_X11_put {M : Nat} {z : mG} {a1 : Nat} {a2 : Int32} {a3 : Int32} {s : mG} (hM : sub 0 M) (h_a1_0 : M.testBit (a1 + 0) = true) (h : KB M z s) : pk (F_X11_put a1 a2 a3 s) (fun τ => KB M z τ) := by
  unfold F_X11_put
  refine pk_ite ?_ ?_
  · exact pk_some h
  · refine pk_b1 pk_top (fun _ _ => ?_)
    refine pk_ite ?_ ?_
    · exact pk_some h
    · refine pk_bs (fun _ => ?_)
      refine pk_nn ?_
      extract_lets +onlyGivenNames s_1
      have h_2 : KB M z s_1 := KB_mu h h_a1_0
      clear_value s_1
      exact pk_some h_2
theorem W_X3_supposeHour {M : Nat} {z : mG} {a1 : Int32} {s : mG} (hM : sub 590295810358705651712 M) (h : KB M z s) : pk (F_X3_supposeHour a1 s) (fun τ => KB M z τ) := by
  unfold F_X3_supposeHour
  refine pk_b1 (W_X11_put (sub_tr (by decide +kernel) hM) (hM 69 (by decide +kernel)) h) (fun s_1 (h_2 : KB M z s_1) => ?_)
  refine pk_b1 (W_X11_put (sub_tr (by decide +kernel) hM) (hM 69 (by decide +kernel)) h_2) (fun s_3 (h_4 : KB M z s_3) => ?_)
  exact pk_some h_4
theorem W_X3_face_107 {M : Nat} {z : mG} {x1 : Int32} {y1 : Int32} {y2 : Int32} {s : mG} (hM : sub 590295810358705651712 M) (h : KB M z s) : pk (F_X3_face_107 x1 y1 y2 s) (fun τ => KB M z τ) := by
  unfold F_X3_face_107
  refine pk_b1 (W_X11_put (sub_tr (by decide +kernel) hM) (hM 69 (by decide +kernel)) h) (fun s_1 (h_2 : KB M z s_1) => ?_)
  refine pk_b1 pk_top (fun _ _ => ?_)
  refine pk_b1 (W_X11_put (sub_tr (by decide +kernel) hM) (hM 69 (by decide +kernel)) h_2) (fun s_3 (h_4 : KB M z s_3) => ?_)
  refine pk_b1 (W_X3_supposeHour (sub_tr (by decide +kernel) hM) h_4) (fun s_5 (h_6 : KB M z s_5) => ?_)
  exact pk_some h_6
theorem W_X3_face {M : Nat} {z : mG} {a1 : Int32} {s : mG} (hM : sub 590295810358705651712 M) (h : KB M z s) : pk (F_X3_face a1 s) (fun τ => KB M z τ) := by
  unfold F_X3_face
  refine pk_b1 (W_X11_put (sub_tr (by decide +kernel) hM) (hM 69 (by decide +kernel)) h) (fun s_1 (h_2 : KB M z s_1) => ?_)
  refine pk_b1 pk_top (fun _ _ => ?_)
  refine pk_b1 (W_X11_put (sub_tr (by decide +kernel) hM) (hM 69 (by decide +kernel)) h_2) (fun s_3 (h_4 : KB M z s_3) => ?_)
  refine pk_b1 pk_top (fun _ _ => ?_)
  refine pk_b1 (W_X11_put (sub_tr (by decide +kernel) hM) (hM 69 (by decide +kernel)) h_4) (fun s_5 (h_6 : KB M z s_5) => ?_)
  refine pk_b1 (W_X11_put (sub_tr (by decide +kernel) hM) (hM 69 (by decide +kernel)) h_6) (fun s_7 (h_8 : KB M z s_7) => ?_)
  refine pk_b1 (W_X11_put (sub_tr (by decide +kernel) hM) (hM 69 (by decide +kernel)) h_8) (fun s_9 (h_10 : KB M z s_9) => ?_)
  refine pk_b1 pk_top (fun _ _ => ?_)
  refine pk_ite ?_ ?_
  · exact (W_X3_face_107 (sub_tr (by decide +kernel) hM) h_10)
  · exact (W_X3_face_107 (sub_tr (by decide +kernel) hM) h_10)
theorem W_X3_valueOf_229 {M : Nat} {z : mG} {x2 : Int32} {x3 : Int32} {x4 : Int32} {s : mG} (hM : sub 0 M) (h : KB M z s) : pk (F_X3_valueOf_229 x2 x3 x4 s) (se (fun τ => KB M z τ.2.2.2) (fun τ => KB M z τ.2)) := by
  unfold F_X3_valueOf_229
  exact pk_some h
theorem W_X3_valueOf_199 {M : Nat} {z : mG} {x2 : Int32} {x3 : Int32} {x4 : Int32} {x5 : Int32} {x7 : Int32} {s : mG} (hM : sub 1180591620717411303424 M) (h : KB M z s) : pk (F_X3_valueOf_199 x2 x3 x4 x5 x7 s) (se (fun τ => KB M z τ.2.2.2) (fun τ => KB M z τ.2)) := by
  unfold F_X3_valueOf_199
  refine pk_b1 pk_top (fun _ _ => ?_)
  refine pk_b1 pk_top (fun _ _ => ?_)
  refine pk_b1 (W_X11_put (sub_tr (by decide +kernel) hM) (hM 70 (by decide +kernel)) h) (fun s_1 (h_2 : KB M z s_1) => ?_)
  exact (W_X3_valueOf_229 (sub_tr (by decide +kernel) hM) h_2)
theorem W_X3_valueOf_176 {M : Nat} {z : mG} {x2 : Int32} {x3 : Int32} {x4 : Int32} {y1 : Int32} {y2 : Int32} {s : mG} (hM : sub 1180591620717411303424 M) (h : KB M z s) : pk (F_X3_valueOf_176 x2 x3 x4 y1 y2 s) (se (fun τ => KB M z τ.2.2.2) (fun τ => KB M z τ.2)) := by
  unfold F_X3_valueOf_176
  refine pk_b1 (W_X11_put (sub_tr (by decide +kernel) hM) (hM 70 (by decide +kernel)) h) (fun s_1 (h_2 : KB M z s_1) => ?_)
  exact (W_X3_valueOf_229 (sub_tr (by decide +kernel) hM) h_2)
theorem W_X3_valueOf_B5 {M : Nat} {z : mG} {x2 : Int32} {x3 : Int32} {x4 : Int32} {s : mG} (hM : sub 1180591620717411303424 M) (h : KB M z s) : pk (F_X3_valueOf_B5 x2 x3 x4 s) (se (fun τ => KB M z τ.2.2.2) (fun τ => KB M z τ.2)) := by
  unfold F_X3_valueOf_B5
  refine pk_ite ?_ ?_
  · refine pk_b1 pk_top (fun _ _ => ?_)
    exact pk_some h
  · refine pk_b1 pk_top (fun _ _ => ?_)
    refine pk_b1 pk_top (fun _ _ => ?_)
    refine pk_b1 pk_top (fun _ _ => ?_)
    refine pk_ite ?_ ?_
    · refine pk_b1 (W_X11_put (sub_tr (by decide +kernel) hM) (hM 70 (by decide +kernel)) h) (fun s_1 (h_2 : KB M z s_1) => ?_)
      exact (W_X3_valueOf_229 (sub_tr (by decide +kernel) hM) h_2)
    · refine pk_ite ?_ ?_
      · refine pk_b1 pk_top (fun _ _ => ?_)
        refine pk_b1 (W_X11_put (sub_tr (by decide +kernel) hM) (hM 70 (by decide +kernel)) h) (fun s_3 (h_4 : KB M z s_3) => ?_)
        exact (W_X3_valueOf_229 (sub_tr (by decide +kernel) hM) h_4)
      · refine pk_ite ?_ ?_
        · exact (W_X3_valueOf_199 (sub_tr (by decide +kernel) hM) h)
        · refine pk_ite ?_ ?_
          · exact (W_X3_valueOf_199 (sub_tr (by decide +kernel) hM) h)
          · refine pk_ite ?_ ?_
            · exact (W_X3_valueOf_199 (sub_tr (by decide +kernel) hM) h)
            · refine pk_ite ?_ ?_
              · refine pk_ite ?_ ?_
                · exact (W_X3_valueOf_176 (sub_tr (by decide +kernel) hM) h)
                · refine pk_nn ?_
                  exact (W_X3_valueOf_176 (sub_tr (by decide +kernel) hM) h)
              · refine pk_ite ?_ ?_
                · exact (W_X3_valueOf_199 (sub_tr (by decide +kernel) hM) h)
                · refine pk_ite ?_ ?_
                  · exact (W_X3_valueOf_199 (sub_tr (by decide +kernel) hM) h)
                  · refine pk_ite ?_ ?_
                    · exact (W_X3_valueOf_199 (sub_tr (by decide +kernel) hM) h)
                    · refine pk_ite ?_ ?_
                      · refine pk_b1 (W_X11_put (sub_tr (by decide +kernel) hM) (hM 70 (by decide +kernel)) h) (fun s_5 (h_6 : KB M z s_5) => ?_)
                        exact (W_X3_valueOf_229 (sub_tr (by decide +kernel) hM) h_6)
                      · exact (W_X3_valueOf_199 (sub_tr (by decide +kernel) hM) h)
theorem W_X3_valueOf_L5 {M : Nat} {z : mG} {x2 : Int32} {x3 : Int32} {x4 : Int32} {s : mG} (hM : sub 1180591620717411303424 M) (h : KB M z s) : pk (F_X3_valueOf_L5 x2 x3 x4 s) (fun τ => KB M z τ.2) := by
  unfold F_X3_valueOf_L5
  refine pk_whl (fun v => KB M z v.2.2.2) h (fun v hv => ?_)
  obtain ⟨y0, y1, y2, y3⟩ := v
  exact W_X3_valueOf_B5 (sub_tr (by decide +kernel) hM) hv
theorem W_X3_valueOf {M : Nat} {z : mG} {a1 : Int32} {a2 : Int32} {s : mG} (hM : sub 1180591620717411303424 M) (h : KB M z s) : pk (F_X3_valueOf a1 a2 s) (fun τ => KB M z τ.2) := by
  unfold F_X3_valueOf
  exact (W_X3_valueOf_L5 (sub_tr (by decide +kernel) hM) h)
theorem W_X3_tells_115 {M : Nat} {z : mG} {x1 : Int32} {x2 : Int32} {s : mG} (hM : sub 0 M) (h : KB M z s) : pk (F_X3_tells_115 x1 x2 s) (se (fun τ => KB M z τ.2.2) (fun τ => KB M z τ.2)) := by
  unfold F_X3_tells_115
  exact pk_some h
theorem W_X3_tells_87 {M : Nat} {z : mG} {x2 : Int32} {x3 : Int32} {s : mG} (hM : sub 1180591620717411303424 M) (h : KB M z s) : pk (F_X3_tells_87 x2 x3 s) (fun τ => KB M z τ.2) := by
  unfold F_X3_tells_87
  refine pk_b1 pk_top (fun _ _ => ?_)
  refine pk_b2 (W_X3_valueOf (sub_tr (by decide +kernel) hM) h) (fun _ s_1 (h_2 : KB M z s_1) => ?_)
  extract_lets +onlyGivenNames v_3
  clear_value v_3
  exact pk_some h_2
theorem W_X3_tells_64 {M : Nat} {z : mG} {x1 : Int32} {x2 : Int32} {x3 : Int32} {x4 : Int32} {y0 : Int32} {s : mG} (hM : sub 1180591620717411303424 M) (h : KB M z s) : pk (F_X3_tells_64 x1 x2 x3 x4 y0 s) (se (fun τ => KB M z τ.2.2) (fun τ => KB M z τ.2)) := by
  unfold F_X3_tells_64
  refine pk_ite ?_ ?_
  · exact (W_X3_tells_115 (sub_tr (by decide +kernel) hM) h)
  · refine pk_ite ?_ ?_
    · refine pk_b1r ?_
      exact (W_X3_tells_87 (sub_tr (by decide +kernel) hM) h)
    · refine pk_b2 (W_X3_valueOf (sub_tr (by decide +kernel) hM) h) (fun _ s_1 (h_2 : KB M z s_1) => ?_)
      refine pk_ite ?_ ?_
      · exact (W_X3_tells_115 (sub_tr (by decide +kernel) hM) h_2)
      · refine pk_b1r ?_
        exact (W_X3_tells_87 (sub_tr (by decide +kernel) hM) h_2)
theorem W_X3_tells_B2 {M : Nat} {z : mG} {x1 : Int32} {x2 : Int32} {s : mG} (hM : sub 1180591620717411303424 M) (h : KB M z s) : pk (F_X3_tells_B2 x1 x2 s) (se (fun τ => KB M z τ.2.2) (fun τ => KB M z τ.2)) := by
  unfold F_X3_tells_B2
  refine pk_ite ?_ ?_
  · refine pk_ite ?_ ?_
    · refine pk_b1 pk_top (fun _ _ => ?_)
      refine pk_ite ?_ ?_
      · exact pk_some h
      · exact pk_some h
    · refine pk_b1 pk_top (fun _ _ => ?_)
      exact pk_some h
  · refine pk_b1 pk_top (fun _ _ => ?_)
    refine pk_b1 pk_top (fun _ _ => ?_)
    refine pk_b1 pk_top (fun _ _ => ?_)
    refine pk_ite ?_ ?_
    · exact (W_X3_tells_64 (sub_tr (by decide +kernel) hM) h)
    · exact (W_X3_tells_64 (sub_tr (by decide +kernel) hM) h)
theorem W_X3_tells_L2 {M : Nat} {z : mG} {x1 : Int32} {x2 : Int32} {s : mG} (hM : sub 1180591620717411303424 M) (h : KB M z s) : pk (F_X3_tells_L2 x1 x2 s) (fun τ => KB M z τ.2) := by
  unfold F_X3_tells_L2
  refine pk_whl (fun v => KB M z v.2.2) h (fun v hv => ?_)
  obtain ⟨y0, y1, y2⟩ := v
  exact W_X3_tells_B2 (sub_tr (by decide +kernel) hM) hv
theorem W_X3_tells {M : Nat} {z : mG} {a1 : Int32} {s : mG} (hM : sub 1180591620717411303424 M) (h : KB M z s) : pk (F_X3_tells a1 s) (fun τ => KB M z τ.2) := by
  unfold F_X3_tells
  exact (W_X3_tells_L2 (sub_tr (by decide +kernel) hM) h)
theorem W_X0_sureByGlance_74 {M : Nat} {z : mG} {x3 : Int32} {y0 : Int32} {s : mG} (hM : sub 0 M) (h : KB M z s) : pk (F_X0_sureByGlance_74 x3 y0 s) (se (fun τ => KB M z τ.2.2) (fun τ => KB M z τ.2)) := by
  unfold F_X0_sureByGlance_74
  exact pk_some h
theorem W_X0_sureByGlance_71 {M : Nat} {z : mG} {x3 : Int32} {y1 : Int32} {y2 : Int32} {y3 : Int32} {s : mG} (hM : sub 0 M) (h : KB M z s) : pk (F_X0_sureByGlance_71 x3 y1 y2 y3 s) (se (fun τ => KB M z τ.2.2) (fun τ => KB M z τ.2)) := by
  unfold F_X0_sureByGlance_71
  refine pk_b1 pk_top (fun _ _ => ?_)
  exact (W_X0_sureByGlance_74 (sub_tr (by decide +kernel) hM) h)
theorem W_X0_sureByGlance_B23 {M : Nat} {z : mG} {x2 : Int32} {x3 : Int32} {s : mG} (hM : sub 0 M) (h : KB M z s) : pk (F_X0_sureByGlance_B23 x2 x3 s) (se (fun τ => KB M z τ.2.2) (fun τ => KB M z τ.2)) := by
  unfold F_X0_sureByGlance_B23
  refine pk_ite ?_ ?_
  · exact pk_some h
  · refine pk_b1 pk_top (fun _ _ => ?_)
    refine pk_ite ?_ ?_
    · exact (W_X0_sureByGlance_74 (sub_tr (by decide +kernel) hM) h)
    · refine pk_ite ?_ ?_
      · exact (W_X0_sureByGlance_71 (sub_tr (by decide +kernel) hM) h)
      · exact (W_X0_sureByGlance_71 (sub_tr (by decide +kernel) hM) h)
theorem W_X0_sureByGlance_L23 {M : Nat} {z : mG} {x2 : Int32} {x3 : Int32} {s : mG} (hM : sub 0 M) (h : KB M z s) : pk (F_X0_sureByGlance_L23 x2 x3 s) (fun τ => KB M z τ.2) := by
  unfold F_X0_sureByGlance_L23
  refine pk_whl (fun v => KB M z v.2.2) h (fun v hv => ?_)
  obtain ⟨y0, y1, y2⟩ := v
  exact W_X0_sureByGlance_B23 (sub_tr (by decide +kernel) hM) hv
theorem W_X0_sureByGlance {M : Nat} {z : mG} {a1 : Int32} {s : mG} (hM : sub 1770887431076116955136 M) (h : KB M z s) : pk (F_X0_sureByGlance a1 s) (fun τ => KB M z τ.2) := by
  unfold F_X0_sureByGlance
  refine pk_b1 (W_X3_face (sub_tr (by decide +kernel) hM) h) (fun s_1 (h_2 : KB M z s_1) => ?_)
  refine pk_b2 (W_X3_tells (sub_tr (by decide +kernel) hM) h_2) (fun _ s_3 (h_4 : KB M z s_3) => ?_)
  exact (W_X0_sureByGlance_L23 (sub_tr (by decide +kernel) hM) h_4)
theorem W_X0_sureOf {M : Nat} {z : mG} {a1 : Int32} {s : mG} (hM : sub 20660353362554697809920 M) (h : KB M z s) : pk (F_X0_sureOf a1 s) (fun τ => KB M z τ.2) := by
  unfold F_X0_sureOf
  refine pk_b1 (W_X0_glanceAt (sub_tr (by decide +kernel) hM) h) (fun s_1 (h_2 : KB M z s_1) => ?_)
  refine pk_b2 (W_X0_sureByGlance (sub_tr (by decide +kernel) hM) h_2) (fun _ s_3 (h_4 : KB M z s_3) => ?_)
  exact pk_some h_4
theorem W_X0_signAt_39 {M : Nat} {z : mG} {x5 : Int32} {s : mG} (hM : sub 0 M) (h : KB M z s) : pk (F_X0_signAt_39 x5 s) (fun τ => KB M z τ.2) := by
  unfold F_X0_signAt_39
  exact pk_some h
theorem W_X0_signAt_66 {M : Nat} {z : mG} {x1 : Int32} {x2 : Int32} {x3 : Int32} {y1 : Int32} {y2 : Int32} {s : mG} (hM : sub 18889465931478580854784 M) (h : KB M z s) : pk (F_X0_signAt_66 x1 x2 x3 y1 y2 s) (se (fun τ => KB M z τ.2.2.2) (fun τ => KB M z τ.2)) := by
  unfold F_X0_signAt_66
  refine pk_b1 (W_X11_put (sub_tr (by decide +kernel) hM) (hM 74 (by decide +kernel)) h) (fun s_1 (h_2 : KB M z s_1) => ?_)
  exact pk_some h_2
theorem W_X0_signAt_B7 {M : Nat} {z : mG} {x1 : Int32} {x2 : Int32} {x3 : Int32} {s : mG} (hM : sub 20660353362554697809920 M) (h : KB M z s) : pk (F_X0_signAt_B7 x1 x2 x3 s) (se (fun τ => KB M z τ.2.2.2) (fun τ => KB M z τ.2)) := by
  unfold F_X0_signAt_B7
  refine pk_ite ?_ ?_
  · exact pk_some h
  · refine pk_b2 (W_X0_sureByGlance (sub_tr (by decide +kernel) hM) h) (fun _ s_1 (h_2 : KB M z s_1) => ?_)
    refine pk_b1 pk_top (fun _ _ => ?_)
    refine pk_ite ?_ ?_
    · refine pk_b1r ?_
      exact (W_X0_signAt_39 (sub_tr (by decide +kernel) hM) h_2)
    · refine pk_ite ?_ ?_
      · refine pk_b1r ?_
        exact (W_X0_signAt_39 (sub_tr (by decide +kernel) hM) h_2)
      · refine pk_b1 pk_top (fun _ _ => ?_)
        refine pk_ite ?_ ?_
        · exact (W_X0_signAt_66 (sub_tr (by decide +kernel) hM) h_2)
        · exact (W_X0_signAt_66 (sub_tr (by decide +kernel) hM) h_2)
theorem W_X0_signAt_L7 {M : Nat} {z : mG} {x1 : Int32} {x2 : Int32} {x3 : Int32} {s : mG} (hM : sub 20660353362554697809920 M) (h : KB M z s) : pk (F_X0_signAt_L7 x1 x2 x3 s) (fun τ => KB M z τ.2) := by
  unfold F_X0_signAt_L7
  refine pk_whl (fun v => KB M z v.2.2.2) h (fun v hv => ?_)
  obtain ⟨y0, y1, y2, y3⟩ := v
  exact W_X0_signAt_B7 (sub_tr (by decide +kernel) hM) hv
theorem W_X0_signAt {M : Nat} {z : mG} {a1 : Int32} {a2 : Int32} {s : mG} (hM : sub 20660353362554697809920 M) (h : KB M z s) : pk (F_X0_signAt a1 a2 s) (fun τ => KB M z τ.2) := by
  unfold F_X0_signAt
  refine pk_b1 (W_X0_glanceAt (sub_tr (by decide +kernel) hM) h) (fun s_1 (h_2 : KB M z s_1) => ?_)
  exact (W_X0_signAt_L7 (sub_tr (by decide +kernel) hM) h_2)
theorem W_X0_saysIn {M : Nat} {z : mG} {a1 : Int32} {a2 : Int32} {a3 : Int32} {s : mG} (hM : sub 20660353362554697809920 M) (h : KB M z s) : pk (F_X0_saysIn a1 a2 a3 s) (fun τ => KB M z τ.2) := by
  unfold F_X0_saysIn
  refine pk_b2 (W_X0_sureOf (sub_tr (by decide +kernel) hM) h) (fun _ s_1 (h_2 : KB M z s_1) => ?_)
  refine pk_b1 pk_top (fun _ _ => ?_)
  refine pk_pp ?_
  exact pk_some h_2
theorem W_X0_saidToAll_125 {M : Nat} {z : mG} {x1 : Int32} {x2 : Int32} {x4 : Int32} {y0 : Int32} {y1 : Int32} {s : mG} (hM : sub 0 M) (h : KB M z s) : pk (F_X0_saidToAll_125 x1 x2 x4 y0 y1 s) (se (fun τ => KB M z τ.2.2.2.2) (fun τ => KB M z τ.2)) := by
  unfold F_X0_saidToAll_125
  exact pk_some h
theorem W_X0_saidToAll_97 {M : Nat} {z : mG} {x1 : Int32} {x3 : Int32} {x4 : Int32} {x5 : Int32} {x6 : Int32} {x7 : Int32} {x8 : Int32} {y0 : Int32} {y1 : Int32} {s : mG} (hM : sub 0 M) (h : KB M z s) : pk (F_X0_saidToAll_97 x1 x3 x4 x5 x6 x7 x8 y0 y1 s) (se (fun τ => KB M z τ.2.2.2.2) (fun τ => KB M z τ.2)) := by
  unfold F_X0_saidToAll_97
  refine pk_ite ?_ ?_
  · refine pk_b1 pk_top (fun _ _ => ?_)
    exact (W_X0_saidToAll_125 (sub_tr (by decide +kernel) hM) h)
  · refine pk_b1 pk_top (fun _ _ => ?_)
    exact (W_X0_saidToAll_125 (sub_tr (by decide +kernel) hM) h)
theorem W_X0_saidToAll_B7 {M : Nat} {z : mG} {x1 : Int32} {x2 : Int32} {x3 : Int32} {x4 : Int32} {s : mG} (hM : sub 20660353362554697809920 M) (h : KB M z s) : pk (F_X0_saidToAll_B7 x1 x2 x3 x4 s) (se (fun τ => KB M z τ.2.2.2.2) (fun τ => KB M z τ.2)) := by
  unfold F_X0_saidToAll_B7
  refine pk_ite ?_ ?_
  · refine pk_ite ?_ ?_
    · exact pk_some h
    · exact pk_some h
  · refine pk_b1 pk_top (fun _ _ => ?_)
    refine pk_b2 (W_X0_sureOf (sub_tr (by decide +kernel) hM) h) (fun _ s_1 (h_2 : KB M z s_1) => ?_)
    refine pk_b1 pk_top (fun _ _ => ?_)
    refine pk_b1 pk_top (fun _ _ => ?_)
    refine pk_b1 pk_top (fun _ _ => ?_)
    refine pk_ite ?_ ?_
    · exact (W_X0_saidToAll_97 (sub_tr (by decide +kernel) hM) h_2)
    · exact (W_X0_saidToAll_97 (sub_tr (by decide +kernel) hM) h_2)
theorem W_X0_saidToAll_L7 {M : Nat} {z : mG} {x1 : Int32} {x2 : Int32} {x3 : Int32} {x4 : Int32} {s : mG} (hM : sub 20660353362554697809920 M) (h : KB M z s) : pk (F_X0_saidToAll_L7 x1 x2 x3 x4 s) (fun τ => KB M z τ.2) := by
  unfold F_X0_saidToAll_L7
  refine pk_whl (fun v => KB M z v.2.2.2.2) h (fun v hv => ?_)
  obtain ⟨y0, y1, y2, y3, y4⟩ := v
  exact W_X0_saidToAll_B7 (sub_tr (by decide +kernel) hM) hv
theorem W_X0_saidToAll {M : Nat} {z : mG} {a1 : Int32} {s : mG} (hM : sub 20660353362554697809920 M) (h : KB M z s) : pk (F_X0_saidToAll a1 s) (fun τ => KB M z τ.2) := by
  unfold F_X0_saidToAll
  exact (W_X0_saidToAll_L7 (sub_tr (by decide +kernel) hM) h)
theorem W_X0_weighAll_B2 {M : Nat} {z : mG} {x1 : Int32} {s : mG} (hM : sub 96218217088469021229056 M) (h : KB M z s) : pk (F_X0_weighAll_B2 x1 s) (se (fun τ => KB M z τ.2) (fun τ => KB M z τ)) := by
  unfold F_X0_weighAll_B2
  refine pk_ite ?_ ?_
  · exact pk_some h
  · refine pk_b1 (W_X0_glanceAt (sub_tr (by decide +kernel) hM) h) (fun s_1 (h_2 : KB M z s_1) => ?_)
    refine pk_b2 (W_X0_sureByGlance (sub_tr (by decide +kernel) hM) h_2) (fun _ s_3 (h_4 : KB M z s_3) => ?_)
    refine pk_b1 (W_X11_put (sub_tr (by decide +kernel) hM) (hM 76 (by decide +kernel)) h_4) (fun s_5 (h_6 : KB M z s_5) => ?_)
    exact pk_some h_6
theorem W_X0_weighAll_L2 {M : Nat} {z : mG} {x1 : Int32} {s : mG} (hM : sub 96218217088469021229056 M) (h : KB M z s) : pk (F_X0_weighAll_L2 x1 s) (fun τ => KB M z τ) := by
  unfold F_X0_weighAll_L2
  refine pk_whl (fun v => KB M z v.2) h (fun v hv => ?_)
  obtain ⟨y0, y1⟩ := v
  exact W_X0_weighAll_B2 (sub_tr (by decide +kernel) hM) hv
theorem W_X0_weighAll {M : Nat} {z : mG} {s : mG} (hM : sub 96218217088469021229056 M) (h : KB M z s) : pk (F_X0_weighAll s) (fun τ => KB M z τ) := by
  unfold F_X0_weighAll
  exact (W_X0_weighAll_L2 (sub_tr (by decide +kernel) hM) h)
theorem W_X0_sumOfSure_B8 {M : Nat} {z : mG} {x1 : Int32} {x2 : Int32} {s : mG} (hM : sub 0 M) (h : KB M z s) : pk (F_X0_sumOfSure_B8 x1 x2 s) (se (fun τ => KB M z τ.2.2) (fun τ => KB M z τ.2)) := by
  unfold F_X0_sumOfSure_B8
  refine pk_ite ?_ ?_
  · exact pk_some h
  · refine pk_b1 pk_top (fun _ _ => ?_)
    exact pk_some h
theorem W_X0_sumOfSure_L8 {M : Nat} {z : mG} {x1 : Int32} {x2 : Int32} {s : mG} (hM : sub 0 M) (h : KB M z s) : pk (F_X0_sumOfSure_L8 x1 x2 s) (fun τ => KB M z τ.2) := by
  unfold F_X0_sumOfSure_L8
  refine pk_whl (fun v => KB M z v.2.2) h (fun v hv => ?_)
  obtain ⟨y0, y1, y2⟩ := v
  exact W_X0_sumOfSure_B8 (sub_tr (by decide +kernel) hM) hv
theorem W_X0_sumOfSure {M : Nat} {z : mG} {s : mG} (hM : sub 96218217088469021229056 M) (h : KB M z s) : pk (F_X0_sumOfSure s) (fun τ => KB M z τ.2) := by
  unfold F_X0_sumOfSure
  refine pk_b1 (W_X0_weighAll (sub_tr (by decide +kernel) hM) h) (fun s_1 (h_2 : KB M z s_1) => ?_)
  exact (W_X0_sumOfSure_L8 (sub_tr (by decide +kernel) hM) h_2)
theorem W_X0_countChance_B8 {M : Nat} {z : mG} {x1 : Int32} {x2 : Int32} {s : mG} (hM : sub 37778931862957161709568 M) (h : KB M z s) : pk (F_X0_countChance_B8 x1 x2 s) (se (fun τ => KB M z τ.2.2) (fun τ => KB M z τ)) := by
  unfold F_X0_countChance_B8
  refine pk_ite ?_ ?_
  · exact pk_some h
  · refine pk_b1 pk_top (fun _ _ => ?_)
    refine pk_b1 pk_top (fun _ _ => ?_)
    refine pk_b1 pk_top (fun _ _ => ?_)
    refine pk_b1 pk_top (fun _ _ => ?_)
    refine pk_b1 (W_X11_put (sub_tr (by decide +kernel) hM) (hM 75 (by decide +kernel)) h) (fun s_1 (h_2 : KB M z s_1) => ?_)
    exact pk_some h_2
theorem W_X0_countChance_L8 {M : Nat} {z : mG} {x1 : Int32} {x2 : Int32} {s : mG} (hM : sub 37778931862957161709568 M) (h : KB M z s) : pk (F_X0_countChance_L8 x1 x2 s) (fun τ => KB M z τ) := by
  unfold F_X0_countChance_L8
  refine pk_whl (fun v => KB M z v.2.2) h (fun v hv => ?_)
  obtain ⟨y0, y1, y2⟩ := v
  exact W_X0_countChance_B8 (sub_tr (by decide +kernel) hM) hv
theorem W_X0_countChance {M : Nat} {z : mG} {a1 : Int32} {s : mG} (hM : sub 37778931862957161709568 M) (h : KB M z s) : pk (F_X0_countChance a1 s) (fun τ => KB M z τ) := by
  unfold F_X0_countChance
  exact (W_X0_countChance_L8 (sub_tr (by decide +kernel) hM) h)
theorem W_X0_countChances_70 {M : Nat} {z : mG} {x1 : Int32} {x2 : Int32} {s : mG} (hM : sub 0 M) (h : KB M z s) : pk (F_X0_countChances_70 x1 x2 s) (se (fun τ => KB M z τ.2.2) (fun τ => KB M z τ)) := by
  unfold F_X0_countChances_70
  exact pk_some h
theorem W_X0_countChances_B39 {M : Nat} {z : mG} {x1 : Int32} {x2 : Int32} {s : mG} (hM : sub 37778931862957161709568 M) (h : KB M z s) : pk (F_X0_countChances_B39 x1 x2 s) (se (fun τ => KB M z τ.2.2) (fun τ => KB M z τ)) := by
  unfold F_X0_countChances_B39
  refine pk_ite ?_ ?_
  · exact pk_some h
  · refine pk_ite ?_ ?_
    · exact (W_X0_countChances_70 (sub_tr (by decide +kernel) hM) h)
    · refine pk_b1 pk_top (fun _ _ => ?_)
      refine pk_b1 (W_X0_countChance (sub_tr (by decide +kernel) hM) h) (fun s_1 (h_2 : KB M z s_1) => ?_)
      exact (W_X0_countChances_70 (sub_tr (by decide +kernel) hM) h_2)
theorem W_X0_countChances_L39 {M : Nat} {z : mG} {x1 : Int32} {x2 : Int32} {s : mG} (hM : sub 37778931862957161709568 M) (h : KB M z s) : pk (F_X0_countChances_L39 x1 x2 s) (fun τ => KB M z τ) := by
  unfold F_X0_countChances_L39
  refine pk_whl (fun v => KB M z v.2.2) h (fun v hv => ?_)
  obtain ⟨y0, y1, y2⟩ := v
  exact W_X0_countChances_B39 (sub_tr (by decide +kernel) hM) hv
theorem W_X0_countChances_30 {M : Nat} {z : mG} {x1 : Int32} {x2 : Int32} {y1 : Int32} {y2 : Int32} {s : mG} (hM : sub 37778931862957161709568 M) (h : KB M z s) : pk (F_X0_countChances_30 x1 x2 y1 y2 s) (se (fun τ => KB M z τ.2.2) (fun τ => KB M z τ)) := by
  unfold F_X0_countChances_30
  refine pk_nn ?_
  extract_lets +onlyGivenNames s_1
  have h_2 : KB M z s_1 := KB_mu h (hM 75 (by decide +kernel))
  clear_value s_1
  exact pk_some h_2
theorem W_X0_countChances_B6 {M : Nat} {z : mG} {x1 : Int32} {x2 : Int32} {s : mG} (hM : sub 37778931862957161709568 M) (h : KB M z s) : pk (F_X0_countChances_B6 x1 x2 s) (se (fun τ => KB M z τ.2.2) (fun τ => KB M z τ)) := by
  unfold F_X0_countChances_B6
  refine pk_ite ?_ ?_
  · refine pk_b1r ?_
    exact (W_X0_countChances_L39 (sub_tr (by decide +kernel) hM) h)
  · refine pk_ite ?_ ?_
    · exact (W_X0_countChances_30 (sub_tr (by decide +kernel) hM) h)
    · exact (W_X0_countChances_30 (sub_tr (by decide +kernel) hM) h)
theorem W_X0_countChances_L6 {M : Nat} {z : mG} {x1 : Int32} {x2 : Int32} {s : mG} (hM : sub 37778931862957161709568 M) (h : KB M z s) : pk (F_X0_countChances_L6 x1 x2 s) (fun τ => KB M z τ) := by
  unfold F_X0_countChances_L6
  refine pk_whl (fun v => KB M z v.2.2) h (fun v hv => ?_)
  obtain ⟨y0, y1, y2⟩ := v
  exact W_X0_countChances_B6 (sub_tr (by decide +kernel) hM) hv
theorem W_X0_countChances {M : Nat} {z : mG} {a1 : Int32} {s : mG} (hM : sub 133997148951426182938624 M) (h : KB M z s) : pk (F_X0_countChances a1 s) (fun τ => KB M z τ) := by
  unfold F_X0_countChances
  refine pk_b1 (W_X0_weighAll (sub_tr (by decide +kernel) hM) h) (fun s_1 (h_2 : KB M z s_1) => ?_)
  exact (W_X0_countChances_L6 (sub_tr (by decide +kernel) hM) h_2)
theorem W_X0_likeliest_47 {M : Nat} {z : mG} {x1 : Int32} {x3 : Int32} {y0 : Int32} {s : mG} (hM : sub 0 M) (h : KB M z s) : pk (F_X0_likeliest_47 x1 x3 y0 s) (se (fun τ => KB M z τ.2.2.2) (fun τ => KB M z τ.2)) := by
  unfold F_X0_likeliest_47
  exact pk_some h
theorem W_X0_likeliest_B9 {M : Nat} {z : mG} {x1 : Int32} {x2 : Int32} {x3 : Int32} {s : mG} (hM : sub 0 M) (h : KB M z s) : pk (F_X0_likeliest_B9 x1 x2 x3 s) (se (fun τ => KB M z τ.2.2.2) (fun τ => KB M z τ.2)) := by
  unfold F_X0_likeliest_B9
  refine pk_ite ?_ ?_
  · refine pk_ite ?_ ?_
    · exact pk_some h
    · refine pk_b1 pk_top (fun _ _ => ?_)
      exact pk_some h
  · refine pk_b1 pk_top (fun _ _ => ?_)
    refine pk_b1 pk_top (fun _ _ => ?_)
    refine pk_ite ?_ ?_
    · exact (W_X0_likeliest_47 (sub_tr (by decide +kernel) hM) h)
    · exact (W_X0_likeliest_47 (sub_tr (by decide +kernel) hM) h)
theorem W_X0_likeliest_L9 {M : Nat} {z : mG} {x1 : Int32} {x2 : Int32} {x3 : Int32} {s : mG} (hM : sub 0 M) (h : KB M z s) : pk (F_X0_likeliest_L9 x1 x2 x3 s) (fun τ => KB M z τ.2) := by
  unfold F_X0_likeliest_L9
  refine pk_whl (fun v => KB M z v.2.2.2) h (fun v hv => ?_)
  obtain ⟨y0, y1, y2, y3⟩ := v
  exact W_X0_likeliest_B9 (sub_tr (by decide +kernel) hM) hv
theorem W_X0_likeliest {M : Nat} {z : mG} {a1 : Int32} {s : mG} (hM : sub 133997148951426182938624 M) (h : KB M z s) : pk (F_X0_likeliest a1 s) (fun τ => KB M z τ.2) := by
  unfold F_X0_likeliest
  refine pk_b1 (W_X0_countChances (sub_tr (by decide +kernel) hM) h) (fun s_1 (h_2 : KB M z s_1) => ?_)
  exact (W_X0_likeliest_L9 (sub_tr (by decide +kernel) hM) h_2)
theorem W_X0_spanEdge_B28 {M : Nat} {z : mG} {x1 : Int32} {x2 : Int32} {x3 : Int32} {x4 : Int32} {x5 : Int32} {s : mG} (hM : sub 0 M) (h : KB M z s) : pk (F_X0_spanEdge_B28 x1 x2 x3 x4 x5 s) (se (fun τ => KB M z τ.2.2.2.2.2) (se (fun τ => KB M z τ.2.2.2.2) (fun τ => KB M z τ.2))) := by
  unfold F_X0_spanEdge_B28
  refine pk_ite ?_ ?_
  · exact pk_some h
  · refine pk_b1 pk_top (fun _ _ => ?_)
    refine pk_ite ?_ ?_
    · exact pk_some h
    · refine pk_ite ?_ ?_
      · exact pk_some h
      · exact pk_some h
theorem W_X0_spanEdge_L28 {M : Nat} {z : mG} {x1 : Int32} {x2 : Int32} {x3 : Int32} {x4 : Int32} {x5 : Int32} {s : mG} (hM : sub 0 M) (h : KB M z s) : pk (F_X0_spanEdge_L28 x1 x2 x3 x4 x5 s) (se (fun τ => KB M z τ.2.2.2.2) (fun τ => KB M z τ.2)) := by
  unfold F_X0_spanEdge_L28
  refine pk_whl (fun v => KB M z v.2.2.2.2.2) h (fun v hv => ?_)
  obtain ⟨y0, y1, y2, y3, y4, y5⟩ := v
  exact W_X0_spanEdge_B28 (sub_tr (by decide +kernel) hM) hv
theorem W_X0_spanEdge_B19 {M : Nat} {z : mG} {x1 : Int32} {x2 : Int32} {x3 : Int32} {x4 : Int32} {s : mG} (hM : sub 0 M) (h : KB M z s) : pk (F_X0_spanEdge_B19 x1 x2 x3 x4 s) (se (fun τ => KB M z τ.2.2.2.2) (fun τ => KB M z τ.2)) := by
  unfold F_X0_spanEdge_B19
  refine pk_ite ?_ ?_
  · exact pk_some h
  · exact (W_X0_spanEdge_L28 (sub_tr (by decide +kernel) hM) h)
theorem W_X0_spanEdge_L19 {M : Nat} {z : mG} {x1 : Int32} {x2 : Int32} {x3 : Int32} {x4 : Int32} {s : mG} (hM : sub 0 M) (h : KB M z s) : pk (F_X0_spanEdge_L19 x1 x2 x3 x4 s) (fun τ => KB M z τ.2) := by
  unfold F_X0_spanEdge_L19
  refine pk_whl (fun v => KB M z v.2.2.2.2) h (fun v hv => ?_)
  obtain ⟨y0, y1, y2, y3, y4⟩ := v
  exact W_X0_spanEdge_B19 (sub_tr (by decide +kernel) hM) hv
theorem W_X0_spanEdge {M : Nat} {z : mG} {a1 : Int32} {a2 : Int32} {s : mG} (hM : sub 133997148951426182938624 M) (h : KB M z s) : pk (F_X0_spanEdge a1 a2 s) (fun τ => KB M z τ.2) := by
  unfold F_X0_spanEdge
  refine pk_b1 (W_X0_countChances (sub_tr (by decide +kernel) hM) h) (fun s_1 (h_2 : KB M z s_1) => ?_)
  exact (W_X0_spanEdge_L19 (sub_tr (by decide +kernel) hM) h_2)
theorem W_X0_amongCounted {M : Nat} {z : mG} {a1 : Int32} {a2 : Int32} {s : mG} (hM : sub 133997148951426182938624 M) (h : KB M z s) : pk (F_X0_amongCounted a1 a2 s) (fun τ => KB M z τ.2) := by
  unfold F_X0_amongCounted
  refine pk_b1 (W_X0_countChances (sub_tr (by decide +kernel) hM) h) (fun s_1 (h_2 : KB M z s_1) => ?_)
  refine pk_b1 pk_top (fun _ _ => ?_)
  refine pk_b1 pk_top (fun _ _ => ?_)
  extract_lets +onlyGivenNames v_3
  clear_value v_3
  refine pk_b1 pk_top (fun _ _ => ?_)
  extract_lets +onlyGivenNames v_4
  clear_value v_4
  refine pk_ite ?_ ?_
  · exact pk_some h_2
  · refine pk_nn ?_
    extract_lets +onlyGivenNames v_5
    clear_value v_5
    exact pk_some h_2
theorem W_X0_emptyChance_55 {M : Nat} {z : mG} {x1 : Int32} {x2 : Int32} {x3 : Int32} {s : mG} (hM : sub 0 M) (h : KB M z s) : pk (F_X0_emptyChance_55 x1 x2 x3 s) (se (fun τ => KB M z τ.2.2.2) (fun τ => KB M z τ.2)) := by
  unfold F_X0_emptyChance_55
  exact pk_some h
theorem W_X0_emptyChance_B9 {M : Nat} {z : mG} {x1 : Int32} {x2 : Int32} {x3 : Int32} {s : mG} (hM : sub 0 M) (h : KB M z s) : pk (F_X0_emptyChance_B9 x1 x2 x3 s) (se (fun τ => KB M z τ.2.2.2) (fun τ => KB M z τ.2)) := by
  unfold F_X0_emptyChance_B9
  refine pk_ite ?_ ?_
  · exact pk_some h
  · refine pk_b1 pk_top (fun _ _ => ?_)
    refine pk_ite ?_ ?_
    · refine pk_b1 pk_top (fun _ _ => ?_)
      refine pk_b1 pk_top (fun _ _ => ?_)
      exact (W_X0_emptyChance_55 (sub_tr (by decide +kernel) hM) h)
    · exact (W_X0_emptyChance_55 (sub_tr (by decide +kernel) hM) h)
theorem W_X0_emptyChance_L9 {M : Nat} {z : mG} {x1 : Int32} {x2 : Int32} {x3 : Int32} {s : mG} (hM : sub 0 M) (h : KB M z s) : pk (F_X0_emptyChance_L9 x1 x2 x3 s) (fun τ => KB M z τ.2) := by
  unfold F_X0_emptyChance_L9
  refine pk_whl (fun v => KB M z v.2.2.2) h (fun v hv => ?_)
  obtain ⟨y0, y1, y2, y3⟩ := v
  exact W_X0_emptyChance_B9 (sub_tr (by decide +kernel) hM) hv
theorem W_X0_emptyChance {M : Nat} {z : mG} {a1 : Int32} {s : mG} (hM : sub 96218217088469021229056 M) (h : KB M z s) : pk (F_X0_emptyChance a1 s) (fun τ => KB M z τ.2) := by
  unfold F_X0_emptyChance
  refine pk_b1 (W_X0_weighAll (sub_tr (by decide +kernel) hM) h) (fun s_1 (h_2 : KB M z s_1) => ?_)
  exact (W_X0_emptyChance_L9 (sub_tr (by decide +kernel) hM) h_2)
theorem W_X0_bestPair_90 {M : Nat} {z : mG} {x1 : Int32} {x2 : Int32} {x3 : Int32} {x4 : Int32} {x5 : Int32} {x6 : Int32} {s : mG} (hM : sub 0 M) (h : KB M z s) : pk (F_X0_bestPair_90 x1 x2 x3 x4 x5 x6 s) (se (fun τ => KB M z τ.2.2.2.2.2.2) (se (fun τ => KB M z τ.2.2.2.2.2) (fun τ => KB M z τ.2))) := by
  unfold F_X0_bestPair_90
  exact pk_some h
theorem W_X0_bestPair_B35 {M : Nat} {z : mG} {x1 : Int32} {x2 : Int32} {x3 : Int32} {x4 : Int32} {x5 : Int32} {x6 : Int32} {s : mG} (hM : sub 0 M) (h : KB M z s) : pk (F_X0_bestPair_B35 x1 x2 x3 x4 x5 x6 s) (se (fun τ => KB M z τ.2.2.2.2.2.2) (se (fun τ => KB M z τ.2.2.2.2.2) (fun τ => KB M z τ.2))) := by
  unfold F_X0_bestPair_B35
  refine pk_ite ?_ ?_
  · exact pk_some h
  · refine pk_b1 pk_top (fun _ _ => ?_)
    refine pk_b1 pk_top (fun _ _ => ?_)
    refine pk_b1 pk_top (fun _ _ => ?_)
    refine pk_ite ?_ ?_
    · exact (W_X0_bestPair_90 (sub_tr (by decide +kernel) hM) h)
    · exact (W_X0_bestPair_90 (sub_tr (by decide +kernel) hM) h)
theorem W_X0_bestPair_L35 {M : Nat} {z : mG} {x1 : Int32} {x2 : Int32} {x3 : Int32} {x4 : Int32} {x5 : Int32} {x6 : Int32} {s : mG} (hM : sub 0 M) (h : KB M z s) : pk (F_X0_bestPair_L35 x1 x2 x3 x4 x5 x6 s) (se (fun τ => KB M z τ.2.2.2.2.2) (fun τ => KB M z τ.2)) := by
  unfold F_X0_bestPair_L35
  refine pk_whl (fun v => KB M z v.2.2.2.2.2.2) h (fun v hv => ?_)
  obtain ⟨y0, y1, y2, y3, y4, y5, y6⟩ := v
  exact W_X0_bestPair_B35 (sub_tr (by decide +kernel) hM) hv
theorem W_X0_bestPair_B14 {M : Nat} {z : mG} {x1 : Int32} {x2 : Int32} {x3 : Int32} {x4 : Int32} {x5 : Int32} {s : mG} (hM : sub 0 M) (h : KB M z s) : pk (F_X0_bestPair_B14 x1 x2 x3 x4 x5 s) (se (fun τ => KB M z τ.2.2.2.2.2) (fun τ => KB M z τ.2)) := by
  unfold F_X0_bestPair_B14
  refine pk_ite ?_ ?_
  · refine pk_ite ?_ ?_
    · exact pk_some h
    · refine pk_ite ?_ ?_
      · exact pk_some h
      · exact pk_some h
  · exact (W_X0_bestPair_L35 (sub_tr (by decide +kernel) hM) h)
theorem W_X0_bestPair_L14 {M : Nat} {z : mG} {x1 : Int32} {x2 : Int32} {x3 : Int32} {x4 : Int32} {x5 : Int32} {s : mG} (hM : sub 0 M) (h : KB M z s) : pk (F_X0_bestPair_L14 x1 x2 x3 x4 x5 s) (fun τ => KB M z τ.2) := by
  unfold F_X0_bestPair_L14
  refine pk_whl (fun v => KB M z v.2.2.2.2.2) h (fun v hv => ?_)
  obtain ⟨y0, y1, y2, y3, y4, y5⟩ := v
  exact W_X0_bestPair_B14 (sub_tr (by decide +kernel) hM) hv
theorem W_X0_bestPair {M : Nat} {z : mG} {a1 : Int32} {s : mG} (hM : sub 96218217088469021229056 M) (h : KB M z s) : pk (F_X0_bestPair a1 s) (fun τ => KB M z τ.2) := by
  unfold F_X0_bestPair
  refine pk_b1 (W_X0_weighAll (sub_tr (by decide +kernel) hM) h) (fun s_1 (h_2 : KB M z s_1) => ?_)
  exact (W_X0_bestPair_L14 (sub_tr (by decide +kernel) hM) h_2)
theorem W_X0_keylessOut_52 {M : Nat} {z : mG} {x1 : Int32} {x2 : Int32} {s : mG} (hM : sub 0 M) (h : KB M z s) : pk (F_X0_keylessOut_52 x1 x2 s) (se (fun τ => KB M z τ.2.2) (fun τ => KB M z τ.2)) := by
  unfold F_X0_keylessOut_52
  exact pk_some h
theorem W_X0_keylessOut_B8 {M : Nat} {z : mG} {x1 : Int32} {x2 : Int32} {s : mG} (hM : sub 0 M) (h : KB M z s) : pk (F_X0_keylessOut_B8 x1 x2 s) (se (fun τ => KB M z τ.2.2) (fun τ => KB M z τ.2)) := by
  unfold F_X0_keylessOut_B8
  refine pk_ite ?_ ?_
  · exact pk_some h
  · refine pk_b1 pk_top (fun _ _ => ?_)
    refine pk_ite ?_ ?_
    · refine pk_b1 pk_top (fun _ _ => ?_)
      extract_lets +onlyGivenNames v_1
      clear_value v_1
      exact (W_X0_keylessOut_52 (sub_tr (by decide +kernel) hM) h)
    · exact (W_X0_keylessOut_52 (sub_tr (by decide +kernel) hM) h)
theorem W_X0_keylessOut_L8 {M : Nat} {z : mG} {x1 : Int32} {x2 : Int32} {s : mG} (hM : sub 0 M) (h : KB M z s) : pk (F_X0_keylessOut_L8 x1 x2 s) (fun τ => KB M z τ.2) := by
  unfold F_X0_keylessOut_L8
  refine pk_whl (fun v => KB M z v.2.2) h (fun v hv => ?_)
  obtain ⟨y0, y1, y2⟩ := v
  exact W_X0_keylessOut_B8 (sub_tr (by decide +kernel) hM) hv
theorem W_X0_keylessOut {M : Nat} {z : mG} {s : mG} (hM : sub 96218217088469021229056 M) (h : KB M z s) : pk (F_X0_keylessOut s) (fun τ => KB M z τ.2) := by
  unfold F_X0_keylessOut
  refine pk_b1 (W_X0_weighAll (sub_tr (by decide +kernel) hM) h) (fun s_1 (h_2 : KB M z s_1) => ?_)
  exact (W_X0_keylessOut_L8 (sub_tr (by decide +kernel) hM) h_2)
theorem W_X1_bestVisit_108 {M : Nat} {z : mG} {x3 : Int32} {x4 : Int32} {x5 : Int32} {x6 : Int32} {x7 : Int32} {s : mG} (hM : sub 0 M) (h : KB M z s) : pk (F_X1_bestVisit_108 x3 x4 x5 x6 x7 s) (se (fun τ => KB M z τ.2.2.2.2.2) (fun τ => KB M z τ.2)) := by
  unfold F_X1_bestVisit_108
  exact pk_some h
theorem W_X1_bestVisit_B20 {M : Nat} {z : mG} {x3 : Int32} {x4 : Int32} {x5 : Int32} {x6 : Int32} {x7 : Int32} {s : mG} (hM : sub 1770887431076116955136 M) (h : KB M z s) : pk (F_X1_bestVisit_B20 x3 x4 x5 x6 x7 s) (se (fun τ => KB M z τ.2.2.2.2.2) (fun τ => KB M z τ.2)) := by
  unfold F_X1_bestVisit_B20
  refine pk_ite ?_ ?_
  · refine pk_ite ?_ ?_
    · exact pk_some h
    · exact pk_some h
  · refine pk_b1 (W_X3_supposeHour (sub_tr (by decide +kernel) hM) h) (fun s_1 (h_2 : KB M z s_1) => ?_)
    refine pk_b2 (W_X3_tells (sub_tr (by decide +kernel) hM) h_2) (fun _ s_3 (h_4 : KB M z s_3) => ?_)
    extract_lets +onlyGivenNames v_5
    clear_value v_5
    refine pk_b2 (W_X3_tells (sub_tr (by decide +kernel) hM) h_4) (fun _ s_6 (h_7 : KB M z s_6) => ?_)
    extract_lets +onlyGivenNames v_8
    clear_value v_8
    refine pk_ite ?_ ?_
    · exact (W_X1_bestVisit_108 (sub_tr (by decide +kernel) hM) h_7)
    · exact (W_X1_bestVisit_108 (sub_tr (by decide +kernel) hM) h_7)
theorem W_X1_bestVisit_L20 {M : Nat} {z : mG} {x3 : Int32} {x4 : Int32} {x5 : Int32} {x6 : Int32} {x7 : Int32} {s : mG} (hM : sub 1770887431076116955136 M) (h : KB M z s) : pk (F_X1_bestVisit_L20 x3 x4 x5 x6 x7 s) (fun τ => KB M z τ.2) := by
  unfold F_X1_bestVisit_L20
  refine pk_whl (fun v => KB M z v.2.2.2.2.2) h (fun v hv => ?_)
  obtain ⟨y0, y1, y2, y3, y4, y5⟩ := v
  exact W_X1_bestVisit_B20 (sub_tr (by decide +kernel) hM) hv
theorem W_X1_bestVisit {M : Nat} {z : mG} {a1 : Int32} {a2 : Int32} {a3 : Int32} {s : mG} (hM : sub 1770887431076116955136 M) (h : KB M z s) : pk (F_X1_bestVisit a1 a2 a3 s) (fun τ => KB M z τ.2) := by
  unfold F_X1_bestVisit
  refine pk_b1 (W_X3_face (sub_tr (by decide +kernel) hM) h) (fun s_1 (h_2 : KB M z s_1) => ?_)
  exact (W_X1_bestVisit_L20 (sub_tr (by decide +kernel) hM) h_2)
theorem W_X3_suppose {M : Nat} {z : mG} {a1 : Int32} {a2 : Int32} {s : mG} (hM : sub 590295810358705651712 M) (h : KB M z s) : pk (F_X3_suppose a1 a2 s) (fun τ => KB M z τ) := by
  unfold F_X3_suppose
  refine pk_b1 (W_X11_put (sub_tr (by decide +kernel) hM) (hM 69 (by decide +kernel)) h) (fun s_1 (h_2 : KB M z s_1) => ?_)
  exact pk_some h_2
theorem W_X1_stillOut_B14 {M : Nat} {z : mG} {x1 : Int32} {x2 : Int32} {x3 : Int32} {x4 : Int32} {s : mG} (hM : sub 1770887431076116955136 M) (h : KB M z s) : pk (F_X1_stillOut_B14 x1 x2 x3 x4 s) (se (fun τ => KB M z τ.2.2.2.2) (fun τ => KB M z τ.2)) := by
  unfold F_X1_stillOut_B14
  refine pk_ite ?_ ?_
  · exact pk_some h
  · refine pk_b1 (W_X3_supposeHour (sub_tr (by decide +kernel) hM) h) (fun s_1 (h_2 : KB M z s_1) => ?_)
    refine pk_b1 pk_top (fun _ _ => ?_)
    refine pk_b1 (W_X3_suppose (sub_tr (by decide +kernel) hM) h_2) (fun s_3 (h_4 : KB M z s_3) => ?_)
    refine pk_b2 (W_X3_tells (sub_tr (by decide +kernel) hM) h_4) (fun _ s_5 (h_6 : KB M z s_5) => ?_)
    extract_lets +onlyGivenNames v_7
    clear_value v_7
    exact pk_some h_6
theorem W_X1_stillOut_L14 {M : Nat} {z : mG} {x1 : Int32} {x2 : Int32} {x3 : Int32} {x4 : Int32} {s : mG} (hM : sub 1770887431076116955136 M) (h : KB M z s) : pk (F_X1_stillOut_L14 x1 x2 x3 x4 s) (fun τ => KB M z τ.2) := by
  unfold F_X1_stillOut_L14
  refine pk_whl (fun v => KB M z v.2.2.2.2) h (fun v hv => ?_)
  obtain ⟨y0, y1, y2, y3, y4⟩ := v
  exact W_X1_stillOut_B14 (sub_tr (by decide +kernel) hM) hv
theorem W_X1_stillOut {M : Nat} {z : mG} {a1 : Int32} {a2 : Int32} {s : mG} (hM : sub 1770887431076116955136 M) (h : KB M z s) : pk (F_X1_stillOut a1 a2 s) (fun τ => KB M z τ.2) := by
  unfold F_X1_stillOut
  refine pk_b1 (W_X3_face (sub_tr (by decide +kernel) hM) h) (fun s_1 (h_2 : KB M z s_1) => ?_)
  exact (W_X1_stillOut_L14 (sub_tr (by decide +kernel) hM) h_2)
theorem W_X1_movesAt_56 {M : Nat} {z : mG} {x1 : Int32} {x3 : Int32} {y0 : Int32} {y2 : Int32} {s : mG} (hM : sub 1180591620717411303424 M) (h : KB M z s) : pk (F_X1_movesAt_56 x1 x3 y0 y2 s) (se (fun τ => KB M z τ.2.2.2) (fun τ => KB M z τ.2)) := by
  unfold F_X1_movesAt_56
  refine pk_b2 (W_X3_tells (sub_tr (by decide +kernel) hM) h) (fun _ s_1 (h_2 : KB M z s_1) => ?_)
  exact pk_some h_2
theorem W_X1_movesAt_B4 {M : Nat} {z : mG} {x1 : Int32} {x2 : Int32} {x3 : Int32} {s : mG} (hM : sub 1770887431076116955136 M) (h : KB M z s) : pk (F_X1_movesAt_B4 x1 x2 x3 s) (se (fun τ => KB M z τ.2.2.2) (fun τ => KB M z τ.2)) := by
  unfold F_X1_movesAt_B4
  refine pk_ite ?_ ?_
  · exact pk_some h
  · refine pk_b1 (W_X3_face (sub_tr (by decide +kernel) hM) h) (fun s_1 (h_2 : KB M z s_1) => ?_)
    refine pk_b1 (W_X3_suppose (sub_tr (by decide +kernel) hM) h_2) (fun s_3 (h_4 : KB M z s_3) => ?_)
    refine pk_b1 pk_top (fun _ _ => ?_)
    refine pk_ite ?_ ?_
    · exact (W_X1_movesAt_56 (sub_tr (by decide +kernel) hM) h_4)
    · exact (W_X1_movesAt_56 (sub_tr (by decide +kernel) hM) h_4)
theorem W_X1_movesAt_L4 {M : Nat} {z : mG} {x1 : Int32} {x2 : Int32} {x3 : Int32} {s : mG} (hM : sub 1770887431076116955136 M) (h : KB M z s) : pk (F_X1_movesAt_L4 x1 x2 x3 s) (fun τ => KB M z τ.2) := by
  unfold F_X1_movesAt_L4
  refine pk_whl (fun v => KB M z v.2.2.2) h (fun v hv => ?_)
  obtain ⟨y0, y1, y2, y3⟩ := v
  exact W_X1_movesAt_B4 (sub_tr (by decide +kernel) hM) hv
theorem W_X1_movesAt {M : Nat} {z : mG} {a1 : Int32} {s : mG} (hM : sub 1770887431076116955136 M) (h : KB M z s) : pk (F_X1_movesAt a1 s) (fun τ => KB M z τ.2) := by
  unfold F_X1_movesAt
  exact (W_X1_movesAt_L4 (sub_tr (by decide +kernel) hM) h)
theorem W_X1_movesNow {M : Nat} {z : mG} {s : mG} (hM : sub 1770887431076116955136 M) (h : KB M z s) : pk (F_X1_movesNow s) (fun τ => KB M z τ.2) := by
  unfold F_X1_movesNow
  refine pk_b2 (W_X1_movesAt (sub_tr (by decide +kernel) hM) h) (fun _ s_1 (h_2 : KB M z s_1) => ?_)
  exact pk_some h_2
theorem W_X1_busiestClock_34 {M : Nat} {z : mG} {x1 : Int32} {x2 : Int32} {x3 : Int32} {s : mG} (hM : sub 0 M) (h : KB M z s) : pk (F_X1_busiestClock_34 x1 x2 x3 s) (se (fun τ => KB M z τ.2.2.2) (fun τ => KB M z τ.2)) := by
  unfold F_X1_busiestClock_34
  exact pk_some h
theorem W_X1_busiestClock_B10 {M : Nat} {z : mG} {x1 : Int32} {x2 : Int32} {x3 : Int32} {s : mG} (hM : sub 1770887431076116955136 M) (h : KB M z s) : pk (F_X1_busiestClock_B10 x1 x2 x3 s) (se (fun τ => KB M z τ.2.2.2) (fun τ => KB M z τ.2)) := by
  unfold F_X1_busiestClock_B10
  refine pk_ite ?_ ?_
  · exact pk_some h
  · refine pk_b2 (W_X1_movesAt (sub_tr (by decide +kernel) hM) h) (fun _ s_1 (h_2 : KB M z s_1) => ?_)
    refine pk_ite ?_ ?_
    · exact (W_X1_busiestClock_34 (sub_tr (by decide +kernel) hM) h_2)
    · exact (W_X1_busiestClock_34 (sub_tr (by decide +kernel) hM) h_2)
theorem W_X1_busiestClock_L10 {M : Nat} {z : mG} {x1 : Int32} {x2 : Int32} {x3 : Int32} {s : mG} (hM : sub 1770887431076116955136 M) (h : KB M z s) : pk (F_X1_busiestClock_L10 x1 x2 x3 s) (fun τ => KB M z τ.2) := by
  unfold F_X1_busiestClock_L10
  refine pk_whl (fun v => KB M z v.2.2.2) h (fun v hv => ?_)
  obtain ⟨y0, y1, y2, y3⟩ := v
  exact W_X1_busiestClock_B10 (sub_tr (by decide +kernel) hM) hv
theorem W_X1_busiestClock {M : Nat} {z : mG} {s : mG} (hM : sub 1770887431076116955136 M) (h : KB M z s) : pk (F_X1_busiestClock s) (fun τ => KB M z τ.2) := by
  unfold F_X1_busiestClock
  refine pk_b2 (W_X1_movesAt (sub_tr (by decide +kernel) hM) h) (fun _ s_1 (h_2 : KB M z s_1) => ?_)
  exact (W_X1_busiestClock_L10 (sub_tr (by decide +kernel) hM) h_2)
theorem W_X1_costOfTag_B6 {M : Nat} {z : mG} {x1 : Int32} {x2 : Int32} {x3 : Int32} {x4 : Int32} {x5 : Int32} {s : mG} (hM : sub 1770887431076116955136 M) (h : KB M z s) : pk (F_X1_costOfTag_B6 x1 x2 x3 x4 x5 s) (se (fun τ => KB M z τ.2.2.2.2.2) (fun τ => KB M z τ.2)) := by
  unfold F_X1_costOfTag_B6
  refine pk_ite ?_ ?_
  · extract_lets +onlyGivenNames v_1
    clear_value v_1
    exact pk_some h
  · refine pk_b1 (W_X3_face (sub_tr (by decide +kernel) hM) h) (fun s_2 (h_3 : KB M z s_2) => ?_)
    refine pk_b1 (W_X3_suppose (sub_tr (by decide +kernel) hM) h_3) (fun s_4 (h_5 : KB M z s_4) => ?_)
    refine pk_b2 (W_X3_tells (sub_tr (by decide +kernel) hM) h_5) (fun _ s_6 (h_7 : KB M z s_6) => ?_)
    exact pk_some h_7
theorem W_X1_costOfTag_L6 {M : Nat} {z : mG} {x1 : Int32} {x2 : Int32} {x3 : Int32} {x4 : Int32} {x5 : Int32} {s : mG} (hM : sub 1770887431076116955136 M) (h : KB M z s) : pk (F_X1_costOfTag_L6 x1 x2 x3 x4 x5 s) (fun τ => KB M z τ.2) := by
  unfold F_X1_costOfTag_L6
  refine pk_whl (fun v => KB M z v.2.2.2.2.2) h (fun v hv => ?_)
  obtain ⟨y0, y1, y2, y3, y4, y5⟩ := v
  exact W_X1_costOfTag_B6 (sub_tr (by decide +kernel) hM) hv
theorem W_X1_costOfTag {M : Nat} {z : mG} {a1 : Int32} {a2 : Int32} {a3 : Int32} {s : mG} (hM : sub 1770887431076116955136 M) (h : KB M z s) : pk (F_X1_costOfTag a1 a2 a3 s) (fun τ => KB M z τ.2) := by
  unfold F_X1_costOfTag
  exact (W_X1_costOfTag_L6 (sub_tr (by decide +kernel) hM) h)
theorem W_X1_bestTag_45 {M : Nat} {z : mG} {x1 : Int32} {x2 : Int32} {x3 : Int32} {x4 : Int32} {x5 : Int32} {s : mG} (hM : sub 0 M) (h : KB M z s) : pk (F_X1_bestTag_45 x1 x2 x3 x4 x5 s) (se (fun τ => KB M z τ.2.2.2.2.2) (fun τ => KB M z τ.2)) := by
  unfold F_X1_bestTag_45
  exact pk_some h
theorem W_X1_bestTag_B14 {M : Nat} {z : mG} {x1 : Int32} {x2 : Int32} {x3 : Int32} {x4 : Int32} {x5 : Int32} {s : mG} (hM : sub 1770887431076116955136 M) (h : KB M z s) : pk (F_X1_bestTag_B14 x1 x2 x3 x4 x5 s) (se (fun τ => KB M z τ.2.2.2.2.2) (fun τ => KB M z τ.2)) := by
  unfold F_X1_bestTag_B14
  refine pk_ite ?_ ?_
  · exact pk_some h
  · refine pk_b2 (W_X1_costOfTag (sub_tr (by decide +kernel) hM) h) (fun _ s_1 (h_2 : KB M z s_1) => ?_)
    refine pk_ite ?_ ?_
    · exact (W_X1_bestTag_45 (sub_tr (by decide +kernel) hM) h_2)
    · exact (W_X1_bestTag_45 (sub_tr (by decide +kernel) hM) h_2)
theorem W_X1_bestTag_L14 {M : Nat} {z : mG} {x1 : Int32} {x2 : Int32} {x3 : Int32} {x4 : Int32} {x5 : Int32} {s : mG} (hM : sub 1770887431076116955136 M) (h : KB M z s) : pk (F_X1_bestTag_L14 x1 x2 x3 x4 x5 s) (fun τ => KB M z τ.2) := by
  unfold F_X1_bestTag_L14
  refine pk_whl (fun v => KB M z v.2.2.2.2.2) h (fun v hv => ?_)
  obtain ⟨y0, y1, y2, y3, y4, y5⟩ := v
  exact W_X1_bestTag_B14 (sub_tr (by decide +kernel) hM) hv
theorem W_X1_bestTag {M : Nat} {z : mG} {a1 : Int32} {a2 : Int32} {s : mG} (hM : sub 1770887431076116955136 M) (h : KB M z s) : pk (F_X1_bestTag a1 a2 s) (fun τ => KB M z τ.2) := by
  unfold F_X1_bestTag
  refine pk_b2 (W_X1_costOfTag (sub_tr (by decide +kernel) hM) h) (fun _ s_1 (h_2 : KB M z s_1) => ?_)
  exact (W_X1_bestTag_L14 (sub_tr (by decide +kernel) hM) h_2)
theorem W_X1_likeliestToCarry_49 {M : Nat} {z : mG} {x1 : Int32} {x2 : Int32} {x3 : Int32} {s : mG} (hM : sub 0 M) (h : KB M z s) : pk (F_X1_likeliestToCarry_49 x1 x2 x3 s) (se (fun τ => KB M z τ.2.2.2) (fun τ => KB M z τ.2)) := by
  unfold F_X1_likeliestToCarry_49
  exact pk_some h
theorem W_X1_likeliestToCarry_B6 {M : Nat} {z : mG} {x1 : Int32} {x2 : Int32} {x3 : Int32} {s : mG} (hM : sub 1770887431076116955136 M) (h : KB M z s) : pk (F_X1_likeliestToCarry_B6 x1 x2 x3 s) (se (fun τ => KB M z τ.2.2.2) (fun τ => KB M z τ.2)) := by
  unfold F_X1_likeliestToCarry_B6
  refine pk_ite ?_ ?_
  · exact pk_some h
  · refine pk_b1 (W_X3_face (sub_tr (by decide +kernel) hM) h) (fun s_1 (h_2 : KB M z s_1) => ?_)
    refine pk_b2 (W_X3_tells (sub_tr (by decide +kernel) hM) h_2) (fun _ s_3 (h_4 : KB M z s_3) => ?_)
    refine pk_ite ?_ ?_
    · exact (W_X1_likeliestToCarry_49 (sub_tr (by decide +kernel) hM) h_4)
    · exact (W_X1_likeliestToCarry_49 (sub_tr (by decide +kernel) hM) h_4)
theorem W_X1_likeliestToCarry_L6 {M : Nat} {z : mG} {x1 : Int32} {x2 : Int32} {x3 : Int32} {s : mG} (hM : sub 1770887431076116955136 M) (h : KB M z s) : pk (F_X1_likeliestToCarry_L6 x1 x2 x3 s) (fun τ => KB M z τ.2) := by
  unfold F_X1_likeliestToCarry_L6
  refine pk_whl (fun v => KB M z v.2.2.2) h (fun v hv => ?_)
  obtain ⟨y0, y1, y2, y3⟩ := v
  exact W_X1_likeliestToCarry_B6 (sub_tr (by decide +kernel) hM) hv
theorem W_X1_likeliestToCarry {M : Nat} {z : mG} {s : mG} (hM : sub 1770887431076116955136 M) (h : KB M z s) : pk (F_X1_likeliestToCarry s) (fun τ => KB M z τ.2) := by
  unfold F_X1_likeliestToCarry
  exact (W_X1_likeliestToCarry_L6 (sub_tr (by decide +kernel) hM) h)
theorem W_X10_put_39 {M : Nat} {z : mG} {t : Nat} {x3 : Int32} {x4 : Int32} {y0 : Int32} {s : mG} (hM : sub 0 M) (h_t_1 : M.testBit (t + 1) = true) (h : KB M z s) : pk (F_X10_put_39 t x3 x4 y0 s) (fun τ => KB M z τ) := by
  unfold F_X10_put_39
  refine pk_ite ?_ ?_
  · exact pk_some h
  · refine pk_ite ?_ ?_
    · exact pk_some h
    · refine pk_ite ?_ ?_
      · exact pk_some h
      · refine pk_nn ?_
        extract_lets +onlyGivenNames s_1
        have h_2 : KB M z s_1 := KB_mu h h_t_1
        clear_value s_1
        exact pk_some h_2
theorem W_X10_put_38 {M : Nat} {z : mG} {t : Nat} {x3 : Int32} {x4 : Int32} {s : mG} (hM : sub 0 M) (h_t_1 : M.testBit (t + 1) = true) (h : KB M z s) : pk (F_X10_put_38 t x3 x4 s) (fun τ => KB M z τ) := by
  unfold F_X10_put_38
  exact (W_X10_put_39 (sub_tr (by decide +kernel) hM) h_t_1 h)
theorem W_X10_put {M : Nat} {z : mG} {t : Nat} {a1 : Int32} {a2 : Int32} {a3 : Int32} {s : mG} (hM : sub 0 M) (h_t_1 : M.testBit (t + 1) = true) (h : KB M z s) : pk (F_X10_put t a1 a2 a3 s) (fun τ => KB M z τ) := by
  unfold F_X10_put
  extract_lets +onlyGivenNames v_1
  clear_value v_1
  refine pk_ite ?_ ?_
  · exact (W_X10_put_38 (sub_tr (by decide +kernel) hM) h_t_1 h)
  · refine pk_ite ?_ ?_
    · exact (W_X10_put_38 (sub_tr (by decide +kernel) hM) h_t_1 h)
    · refine pk_ite ?_ ?_
      · exact (W_X10_put_38 (sub_tr (by decide +kernel) hM) h_t_1 h)
      · refine pk_ite ?_ ?_
        · exact (W_X10_put_38 (sub_tr (by decide +kernel) hM) h_t_1 h)
        · exact (W_X10_put_39 (sub_tr (by decide +kernel) hM) h_t_1 h)
theorem W_X1_countGoings_92 {M : Nat} {z : mG} {x1 : Int32} {x2 : Int32} {x3 : Int32} {x4 : Int32} {s : mG} (hM : sub 0 M) (h : KB M z s) : pk (F_X1_countGoings_92 x1 x2 x3 x4 s) (se (fun τ => KB M z τ.2.2.2.2) (fun τ => KB M z τ)) := by
  unfold F_X1_countGoings_92
  exact pk_some h
theorem W_X1_countGoings_B7 {M : Nat} {z : mG} {x1 : Int32} {x2 : Int32} {x3 : Int32} {x4 : Int32} {s : mG} (hM : sub 606233797238390704308224 M) (h : KB M z s) : pk (F_X1_countGoings_B7 x1 x2 x3 x4 s) (se (fun τ => KB M z τ.2.2.2.2) (fun τ => KB M z τ)) := by
  unfold F_X1_countGoings_B7
  refine pk_ite ?_ ?_
  · refine pk_b1 (W_X10_put (sub_tr (by decide +kernel) hM) (hM 79 (by decide +kernel)) h) (fun s_1 (h_2 : KB M z s_1) => ?_)
    refine pk_b1 (W_X10_put (sub_tr (by decide +kernel) hM) (hM 79 (by decide +kernel)) h_2) (fun s_3 (h_4 : KB M z s_3) => ?_)
    exact pk_some h_4
  · refine pk_b1 pk_top (fun _ _ => ?_)
    refine pk_ite ?_ ?_
    · refine pk_b1 (W_X3_face (sub_tr (by decide +kernel) hM) h) (fun s_5 (h_6 : KB M z s_5) => ?_)
      refine pk_b1 (W_X3_suppose (sub_tr (by decide +kernel) hM) h_6) (fun s_7 (h_8 : KB M z s_7) => ?_)
      refine pk_b2 (W_X3_tells (sub_tr (by decide +kernel) hM) h_8) (fun _ s_9 (h_10 : KB M z s_9) => ?_)
      refine pk_b2 (W_X3_tells (sub_tr (by decide +kernel) hM) h_10) (fun _ s_11 (h_12 : KB M z s_11) => ?_)
      extract_lets +onlyGivenNames v_13
      clear_value v_13
      exact (W_X1_countGoings_92 (sub_tr (by decide +kernel) hM) h_12)
    · exact (W_X1_countGoings_92 (sub_tr (by decide +kernel) hM) h)
theorem W_X1_countGoings_L7 {M : Nat} {z : mG} {x1 : Int32} {x2 : Int32} {x3 : Int32} {x4 : Int32} {s : mG} (hM : sub 606233797238390704308224 M) (h : KB M z s) : pk (F_X1_countGoings_L7 x1 x2 x3 x4 s) (fun τ => KB M z τ) := by
  unfold F_X1_countGoings_L7
  refine pk_whl (fun v => KB M z v.2.2.2.2) h (fun v hv => ?_)
  obtain ⟨y0, y1, y2, y3, y4⟩ := v
  exact W_X1_countGoings_B7 (sub_tr (by decide +kernel) hM) hv
theorem W_X1_countGoings {M : Nat} {z : mG} {a1 : Int32} {s : mG} (hM : sub 606233797238390704308224 M) (h : KB M z s) : pk (F_X1_countGoings a1 s) (fun τ => KB M z τ) := by
  unfold F_X1_countGoings
  exact (W_X1_countGoings_L7 (sub_tr (by decide +kernel) hM) h)
theorem W_X10_add {M : Nat} {z : mG} {t : Nat} {s : mG} (hM : sub 0 M) (h_t_0 : M.testBit (t + 0) = true) (h : KB M z s) : pk (F_X10_add t s) (fun τ => KB M z τ.2) := by
  unfold F_X10_add
  refine pk_b1 pk_top (fun _ _ => ?_)
  refine pk_ite ?_ ?_
  · extract_lets +onlyGivenNames s_1
    have h_2 : KB M z s_1 := KB_mu h h_t_0
    clear_value s_1
    exact pk_some h_2
  · exact pk_some h
theorem W_X10_clear {M : Nat} {z : mG} {t : Nat} {s : mG} (hM : sub 0 M) (h_t_0 : M.testBit (t + 0) = true) (h : KB M z s) : pk (F_X10_clear t s) (fun τ => KB M z τ) := by
  unfold F_X10_clear
  extract_lets +onlyGivenNames s_1
  have h_2 : KB M z s_1 := KB_mu h h_t_0
  clear_value s_1
  exact pk_some h_2
theorem W_X1_plan_B58 {M : Nat} {z : mG} {x1 : Int32} {x2 : Int32} {x3 : Int32} {s : mG} (hM : sub 2417851639229258349412352 M) (h : KB M z s) : pk (F_X1_plan_B58 x1 x2 x3 s) (se (fun τ => KB M z τ.2.2.2) (se (fun τ => KB M z τ.2.2) (fun τ => KB M z τ))) := by
  unfold F_X1_plan_B58
  refine pk_ite ?_ ?_
  · exact pk_some h
  · refine pk_b1 pk_top (fun _ _ => ?_)
    refine pk_b1 pk_top (fun _ _ => ?_)
    refine pk_b1 pk_top (fun _ _ => ?_)
    refine pk_b1 (W_X10_put (sub_tr (by decide +kernel) hM) (hM 81 (by decide +kernel)) h) (fun s_1 (h_2 : KB M z s_1) => ?_)
    exact pk_some h_2
theorem W_X1_plan_L58 {M : Nat} {z : mG} {x1 : Int32} {x2 : Int32} {x3 : Int32} {s : mG} (hM : sub 2417851639229258349412352 M) (h : KB M z s) : pk (F_X1_plan_L58 x1 x2 x3 s) (se (fun τ => KB M z τ.2.2) (fun τ => KB M z τ)) := by
  unfold F_X1_plan_L58
  refine pk_whl (fun v => KB M z v.2.2.2) h (fun v hv => ?_)
  obtain ⟨y0, y1, y2, y3⟩ := v
  exact W_X1_plan_B58 (sub_tr (by decide +kernel) hM) hv
theorem W_X1_plan_B52 {M : Nat} {z : mG} {x1 : Int32} {x2 : Int32} {s : mG} (hM : sub 2417851639229258349412352 M) (h : KB M z s) : pk (F_X1_plan_B52 x1 x2 s) (se (fun τ => KB M z τ.2.2) (fun τ => KB M z τ)) := by
  unfold F_X1_plan_B52
  refine pk_ite ?_ ?_
  · exact pk_some h
  · exact (W_X1_plan_L58 (sub_tr (by decide +kernel) hM) h)
theorem W_X1_plan_L52 {M : Nat} {z : mG} {x1 : Int32} {x2 : Int32} {s : mG} (hM : sub 2417851639229258349412352 M) (h : KB M z s) : pk (F_X1_plan_L52 x1 x2 s) (fun τ => KB M z τ) := by
  unfold F_X1_plan_L52
  refine pk_whl (fun v => KB M z v.2.2) h (fun v hv => ?_)
  obtain ⟨y0, y1, y2⟩ := v
  exact W_X1_plan_B52 (sub_tr (by decide +kernel) hM) hv
theorem W_X1_plan_B16 {M : Nat} {z : mG} {x1 : Int32} {x2 : Int32} {s : mG} (hM : sub 4535242710985935522103296 M) (h : KB M z s) : pk (F_X1_plan_B16 x1 x2 s) (se (fun τ => KB M z τ.2.2) (fun τ => KB M z τ)) := by
  unfold F_X1_plan_B16
  refine pk_ite ?_ ?_
  · refine pk_b1r ?_
    exact (W_X1_plan_L52 (sub_tr (by decide +kernel) hM) h)
  · refine pk_b2 (W_X10_add (sub_tr (by decide +kernel) hM) (hM 78 (by decide +kernel)) h) (fun _ s_1 (h_2 : KB M z s_1) => ?_)
    refine pk_b2 (W_X10_add (sub_tr (by decide +kernel) hM) (hM 80 (by decide +kernel)) h_2) (fun _ s_3 (h_4 : KB M z s_3) => ?_)
    refine pk_b1 (W_X1_countGoings (sub_tr (by decide +kernel) hM) h_4) (fun s_5 (h_6 : KB M z s_5) => ?_)
    exact pk_some h_6
theorem W_X1_plan_L16 {M : Nat} {z : mG} {x1 : Int32} {x2 : Int32} {s : mG} (hM : sub 4535242710985935522103296 M) (h : KB M z s) : pk (F_X1_plan_L16 x1 x2 s) (fun τ => KB M z τ) := by
  unfold F_X1_plan_L16
  refine pk_whl (fun v => KB M z v.2.2) h (fun v hv => ?_)
  obtain ⟨y0, y1, y2⟩ := v
  exact W_X1_plan_B16 (sub_tr (by decide +kernel) hM) hv
theorem W_X1_plan {M : Nat} {z : mG} {a1 : Int32} {s : mG} (hM : sub 4535242710985935522103296 M) (h : KB M z s) : pk (F_X1_plan a1 s) (fun τ => KB M z τ) := by
  unfold F_X1_plan
  refine pk_b1 (W_X10_clear (sub_tr (by decide +kernel) hM) (hM 78 (by decide +kernel)) h) (fun s_1 (h_2 : KB M z s_1) => ?_)
  refine pk_b1 (W_X10_clear (sub_tr (by decide +kernel) hM) (hM 80 (by decide +kernel)) h_2) (fun s_3 (h_4 : KB M z s_3) => ?_)
  exact (W_X1_plan_L16 (sub_tr (by decide +kernel) hM) h_4)
theorem W_X10_copyFrom_B27 {M : Nat} {z : mG} {t : Nat} {a1 : Nat} {x2 : Int32} {x3 : Int32} {s : mG} (hM : sub 0 M) (h_t_1 : M.testBit (t + 1) = true) (h : KB M z s) : pk (F_X10_copyFrom_B27 t a1 x2 x3 s) (se (fun τ => KB M z τ.2.2) (fun τ => KB M z τ)) := by
  unfold F_X10_copyFrom_B27
  refine pk_ite ?_ ?_
  · exact pk_some h
  · refine pk_ite ?_ ?_
    · exact pk_some h
    · refine pk_ite ?_ ?_
      · exact pk_some h
      · refine pk_nn ?_
        refine pk_nn ?_
        extract_lets +onlyGivenNames s_1
        have h_2 : KB M z s_1 := KB_mu h h_t_1
        clear_value s_1
        exact pk_some h_2
theorem W_X10_copyFrom_L27 {M : Nat} {z : mG} {t : Nat} {a1 : Nat} {x2 : Int32} {x3 : Int32} {s : mG} (hM : sub 0 M) (h_t_1 : M.testBit (t + 1) = true) (h : KB M z s) : pk (F_X10_copyFrom_L27 t a1 x2 x3 s) (fun τ => KB M z τ) := by
  unfold F_X10_copyFrom_L27
  refine pk_whl (fun v => KB M z v.2.2) h (fun v hv => ?_)
  obtain ⟨y0, y1, y2⟩ := v
  exact W_X10_copyFrom_B27 (sub_tr (by decide +kernel) hM) h_t_1 hv
theorem W_X10_copyFrom {M : Nat} {z : mG} {t : Nat} {a1 : Nat} {s : mG} (hM : sub 0 M) (h_t_0 : M.testBit (t + 0) = true) (h_t_1 : M.testBit (t + 1) = true) (h : KB M z s) : pk (F_X10_copyFrom t a1 s) (fun τ => KB M z τ) := by
  unfold F_X10_copyFrom
  extract_lets +onlyGivenNames s_1
  have h_2 : KB M z s_1 := KB_mu h h_t_0
  clear_value s_1
  extract_lets +onlyGivenNames v_3
  clear_value v_3
  exact (W_X10_copyFrom_L27 (sub_tr (by decide +kernel) hM) h_t_1 h_2)
theorem W_X2_copyFrom {M : Nat} {z : mG} {hh : Nat} {a1 : Nat} {s : mG} (hM : sub 0 M) (h_hh_0 : M.testBit (hh + 0) = true) (h_hh_1 : M.testBit (hh + 1) = true) (h_hh_2 : M.testBit (hh + 2) = true) (h_hh_3 : M.testBit (hh + 3) = true) (h_hh_4 : M.testBit (hh + 4) = true) (h_hh_5 : M.testBit (hh + 5) = true) (h_hh_6 : M.testBit (hh + 6) = true) (h_hh_7 : M.testBit (hh + 7) = true) (h_hh_8 : M.testBit (hh + 8) = true) (h_hh_9 : M.testBit (hh + 9) = true) (h_hh_10 : M.testBit (hh + 10) = true) (h_hh_11 : M.testBit (hh + 11) = true) (h_hh_12 : M.testBit (hh + 12) = true) (h_hh_13 : M.testBit (hh + 13) = true) (h_hh_14 : M.testBit (hh + 14) = true) (h_hh_15 : M.testBit (hh + 15) = true) (h_hh_16 : M.testBit (hh + 16) = true) (h : KB M z s) : pk (F_X2_copyFrom hh a1 s) (fun τ => KB M z τ) := by
  unfold F_X2_copyFrom
  refine pk_b1 (W_X10_copyFrom (sub_tr (by decide +kernel) hM) h_hh_1 h_hh_2 h) (fun s_1 (h_2 : KB M z s_1) => ?_)
  refine pk_b1 (W_X10_copyFrom (sub_tr (by decide +kernel) hM) h_hh_3 h_hh_4 h_2) (fun s_3 (h_4 : KB M z s_3) => ?_)
  refine pk_b1 (W_X10_copyFrom (sub_tr (by decide +kernel) hM) h_hh_5 h_hh_6 h_4) (fun s_5 (h_6 : KB M z s_5) => ?_)
  refine pk_b1 (W_X10_copyFrom (sub_tr (by decide +kernel) hM) h_hh_7 h_hh_8 h_6) (fun s_7 (h_8 : KB M z s_7) => ?_)
  refine pk_b1 (W_X10_copyFrom (sub_tr (by decide +kernel) hM) h_hh_9 h_hh_10 h_8) (fun s_9 (h_10 : KB M z s_9) => ?_)
  refine pk_b1 (W_X10_copyFrom (sub_tr (by decide +kernel) hM) h_hh_11 h_hh_12 h_10) (fun s_11 (h_12 : KB M z s_11) => ?_)
  refine pk_b1 (W_X10_copyFrom (sub_tr (by decide +kernel) hM) h_hh_13 h_hh_14 h_12) (fun s_13 (h_14 : KB M z s_13) => ?_)
  refine pk_b1 (W_X10_copyFrom (sub_tr (by decide +kernel) hM) h_hh_15 h_hh_16 h_14) (fun s_15 (h_16 : KB M z s_15) => ?_)
  extract_lets +onlyGivenNames s_17
  have h_18 : KB M z s_17 := KB_mu h_16 h_hh_0
  clear_value s_17
  extract_lets +onlyGivenNames s_19
  have h_20 : KB M z s_19 := KB_mu h_18 h_hh_0
  clear_value s_19
  extract_lets +onlyGivenNames s_21
  have h_22 : KB M z s_21 := KB_mu h_20 h_hh_0
  clear_value s_21
  extract_lets +onlyGivenNames s_23
  have h_24 : KB M z s_23 := KB_mu h_22 h_hh_0
  clear_value s_23
  exact pk_some h_24
theorem W_X2_forgetSeenOf_B2 {M : Nat} {z : mG} {hh : Nat} {x1 : Int32} {x2 : Int32} {s : mG} (hM : sub 0 M) (h_hh_2 : M.testBit (hh + 2) = true) (h : KB M z s) : pk (F_X2_forgetSeenOf_B2 hh x1 x2 s) (se (fun τ => KB M z τ.2.2) (fun τ => KB M z τ)) := by
  unfold F_X2_forgetSeenOf_B2
  refine pk_ite ?_ ?_
  · exact pk_some h
  · refine pk_b1 (W_X10_put (sub_tr (by decide +kernel) hM) h_hh_2 h) (fun s_1 (h_2 : KB M z s_1) => ?_)
    exact pk_some h_2
theorem W_X2_forgetSeenOf_L2 {M : Nat} {z : mG} {hh : Nat} {x1 : Int32} {x2 : Int32} {s : mG} (hM : sub 0 M) (h_hh_2 : M.testBit (hh + 2) = true) (h : KB M z s) : pk (F_X2_forgetSeenOf_L2 hh x1 x2 s) (fun τ => KB M z τ) := by
  unfold F_X2_forgetSeenOf_L2
  refine pk_whl (fun v => KB M z v.2.2) h (fun v hv => ?_)
  obtain ⟨y0, y1, y2⟩ := v
  exact W_X2_forgetSeenOf_B2 (sub_tr (by decide +kernel) hM) h_hh_2 hv
theorem W_X2_forgetSeenOf {M : Nat} {z : mG} {hh : Nat} {a1 : Int32} {s : mG} (hM : sub 0 M) (h_hh_2 : M.testBit (hh + 2) = true) (h : KB M z s) : pk (F_X2_forgetSeenOf hh a1 s) (fun τ => KB M z τ) := by
  unfold F_X2_forgetSeenOf
  exact (W_X2_forgetSeenOf_L2 (sub_tr (by decide +kernel) hM) h_hh_2 h)
theorem W_X2_addGuest {M : Nat} {z : mG} {hh : Nat} {a1 : Int32} {a2 : Int32} {s : mG} (hM : sub 0 M) (h_hh_1 : M.testBit (hh + 1) = true) (h_hh_2 : M.testBit (hh + 2) = true) (h : KB M z s) : pk (F_X2_addGuest hh a1 a2 s) (fun τ => KB M z τ.2) := by
  unfold F_X2_addGuest
  refine pk_b2 (W_X10_add (sub_tr (by decide +kernel) hM) h_hh_1 h) (fun _ s_1 (h_2 : KB M z s_1) => ?_)
  refine pk_b1 (W_X10_put (sub_tr (by decide +kernel) hM) h_hh_2 h_2) (fun s_3 (h_4 : KB M z s_3) => ?_)
  refine pk_b1 (W_X10_put (sub_tr (by decide +kernel) hM) h_hh_2 h_4) (fun s_5 (h_6 : KB M z s_5) => ?_)
  refine pk_b1 (W_X10_put (sub_tr (by decide +kernel) hM) h_hh_2 h_6) (fun s_7 (h_8 : KB M z s_7) => ?_)
  refine pk_b1 (W_X10_put (sub_tr (by decide +kernel) hM) h_hh_2 h_8) (fun s_9 (h_10 : KB M z s_9) => ?_)
  refine pk_b1 (W_X10_put (sub_tr (by decide +kernel) hM) h_hh_2 h_10) (fun s_11 (h_12 : KB M z s_11) => ?_)
  refine pk_b1 (W_X2_forgetSeenOf (sub_tr (by decide +kernel) hM) h_hh_2 h_12) (fun s_13 (h_14 : KB M z s_13) => ?_)
  exact pk_some h_14
end
