noncomputable section
/-! ALL LONGS ARE KEPT -/
def KG (z s : mG) : Prop := s.2 = z.2
theorem KG_mu {z s : mG} {D : Nat → Nat → Int32} (h : KG z s) : KG z (D, s.2) := h
theorem G_X12_comesTo_180 {z : mG} {x1 : Int32} {x3 : Int32} {x4 : Int32} {x5 : Int32} {s : mG} (h : KG z s) : pk (F_X12_comesTo_180 x1 x3 x4 x5 s) (se (fun τ => KG z τ.2.2.2.2) (fun τ => KG z τ.2)) := by
  unfold F_X12_comesTo_180
  exact pk_some h
theorem G_X12_comesTo_86 {z : mG} {x1 : Int32} {x3 : Int32} {x4 : Int32} {x5 : Int32} {y1 : Int32} {y2 : Int32} {s : mG} (h : KG z s) : pk (F_X12_comesTo_86 x1 x3 x4 x5 y1 y2 s) (se (fun τ => KG z τ.2.2.2.2) (fun τ => KG z τ.2)) := by
  unfold F_X12_comesTo_86
  refine pk_nn ?_
  extract_lets +onlyGivenNames s_1
  have h_2 : KG z s_1 := KG_mu h
  clear_value s_1
  exact (G_X12_comesTo_180 h_2)
theorem G_X12_comesTo_B6 {z : mG} {x1 : Int32} {x3 : Int32} {x4 : Int32} {x5 : Int32} {s : mG} (h : KG z s) : pk (F_X12_comesTo_B6 x1 x3 x4 x5 s) (se (fun τ => KG z τ.2.2.2.2) (fun τ => KG z τ.2)) := by
  unfold F_X12_comesTo_B6
  refine pk_ite ?_ ?_
  · exact pk_some h
  · refine pk_nn ?_
    extract_lets +onlyGivenNames v_1
    clear_value v_1
    refine pk_nn ?_
    extract_lets +onlyGivenNames v_2
    clear_value v_2
    refine pk_ite ?_ ?_
    · refine pk_ite ?_ ?_
      · refine pk_nn ?_
        refine pk_nn ?_
        refine pk_nn ?_
        extract_lets +onlyGivenNames s_3
        have h_4 : KG z s_3 := KG_mu h
        clear_value s_3
        exact (G_X12_comesTo_180 h_4)
      · refine pk_ite ?_ ?_
        · refine pk_nn ?_
          refine pk_nn ?_
          extract_lets +onlyGivenNames s_5
          have h_6 : KG z s_5 := KG_mu h
          clear_value s_5
          exact (G_X12_comesTo_180 h_6)
        · refine pk_nn ?_
          refine pk_nn ?_
          refine pk_b1 pk_top (fun _ _ => ?_)
          refine pk_nn ?_
          extract_lets +onlyGivenNames s_7
          have h_8 : KG z s_7 := KG_mu h
          clear_value s_7
          exact (G_X12_comesTo_180 h_8)
    · refine pk_ite ?_ ?_
      · exact (G_X12_comesTo_86 h)
      · refine pk_nn ?_
        exact (G_X12_comesTo_86 h)
theorem G_X12_comesTo_L6 {z : mG} {x1 : Int32} {x3 : Int32} {x4 : Int32} {x5 : Int32} {s : mG} (h : KG z s) : pk (F_X12_comesTo_L6 x1 x3 x4 x5 s) (fun τ => KG z τ.2) := by
  unfold F_X12_comesTo_L6
  refine pk_whl (fun v => KG z v.2.2.2.2) h (fun v hv => ?_)
  obtain ⟨y0, y1, y2, y3, y4⟩ := v
  exact G_X12_comesTo_B6 hv
theorem G_X12_comesTo {z : mG} {a1 : Int32} {a2 : Int32} {a3 : Int32} {s : mG} (h : KG z s) : pk (F_X12_comesTo a1 a2 a3 s) (fun τ => KG z τ.2) := by
  unfold F_X12_comesTo
  exact (G_X12_comesTo_L6 h)
theorem G_X12_isSo_52 {z : mG} {s : mG} (h : KG z s) : pk (F_X12_isSo_52 s) (fun τ => KG z τ.2) := by
  unfold F_X12_isSo_52
  exact pk_some h
theorem G_X12_isSo {z : mG} {a1 : Int32} {s : mG} (h : KG z s) : pk (F_X12_isSo a1 s) (fun τ => KG z τ.2) := by
  unfold F_X12_isSo
  refine pk_nn ?_
  refine pk_nn ?_
  refine pk_ite ?_ ?_
  · exact (G_X12_isSo_52 h)
  · refine pk_nn ?_
    refine pk_nn ?_
    refine pk_b2 (G_X12_comesTo h) (fun _ s_1 (h_2 : KG z s_1) => ?_)
    refine pk_ite ?_ ?_
    · exact (G_X12_isSo_52 h_2)
    · exact pk_some h_2
theorem G_X12_saysIn_187 {z : mG} {x1 : Int32} {x2 : Int32} {x6 : Int32} {s : mG} (h : KG z s) : pk (F_X12_saysIn_187 x1 x2 x6 s) (se (fun τ => KG z τ.2.2.2) (fun τ => KG z τ.2)) := by
  unfold F_X12_saysIn_187
  exact pk_some h
theorem G_X12_saysIn_B113 {z : mG} {x1 : Int32} {x2 : Int32} {x6 : Int32} {s : mG} (h : KG z s) : pk (F_X12_saysIn_B113 x1 x2 x6 s) (se (fun τ => KG z τ.2.2.2) (fun τ => KG z τ.2)) := by
  unfold F_X12_saysIn_B113
  refine pk_ite ?_ ?_
  · refine pk_b1 pk_top (fun _ _ => ?_)
    exact pk_some h
  · refine pk_nn ?_
    refine pk_ite ?_ ?_
    · refine pk_b2 (G_X12_isSo h) (fun _ s_1 (h_2 : KG z s_1) => ?_)
      refine pk_ite ?_ ?_
      · exact (G_X12_saysIn_187 h_2)
      · refine pk_nn ?_
        refine pk_nn ?_
        refine pk_b2 (G_X12_comesTo h_2) (fun _ s_3 (h_4 : KG z s_3) => ?_)
        refine pk_b1 pk_top (fun _ _ => ?_)
        refine pk_b1 pk_top (fun _ _ => ?_)
        exact pk_some h_4
    · exact (G_X12_saysIn_187 h)
theorem G_X12_saysIn_L113 {z : mG} {x1 : Int32} {x2 : Int32} {x6 : Int32} {s : mG} (h : KG z s) : pk (F_X12_saysIn_L113 x1 x2 x6 s) (fun τ => KG z τ.2) := by
  unfold F_X12_saysIn_L113
  refine pk_whl (fun v => KG z v.2.2.2) h (fun v hv => ?_)
  obtain ⟨y0, y1, y2, y3⟩ := v
  exact G_X12_saysIn_B113 hv
theorem G_X12_saysIn_100 {z : mG} {x1 : Int32} {x2 : Int32} {x5 : Int32} {y1 : Int32} {y2 : Int32} {s : mG} (h : KG z s) : pk (F_X12_saysIn_100 x1 x2 x5 y1 y2 s) (fun τ => KG z τ.2) := by
  unfold F_X12_saysIn_100
  refine pk_nn ?_
  extract_lets +onlyGivenNames s_1
  have h_2 : KG z s_1 := KG_mu h
  clear_value s_1
  extract_lets +onlyGivenNames s_3
  have h_4 : KG z s_3 := KG_mu h_2
  clear_value s_3
  exact (G_X12_saysIn_L113 h_4)
theorem G_X12_saysIn {z : mG} {a1 : Int32} {a2 : Int32} {a3 : Int32} {a4 : Int32} {a5 : Int32} {s : mG} (h : KG z s) : pk (F_X12_saysIn a1 a2 a3 a4 a5 s) (fun τ => KG z τ.2) := by
  unfold F_X12_saysIn
  extract_lets +onlyGivenNames s_1
  have h_2 : KG z s_1 := KG_mu h
  clear_value s_1
  refine pk_nn ?_
  extract_lets +onlyGivenNames s_3
  have h_4 : KG z s_3 := KG_mu h_2
  clear_value s_3
  refine pk_nn ?_
  extract_lets +onlyGivenNames s_5
  have h_6 : KG z s_5 := KG_mu h_4
  clear_value s_5
  extract_lets +onlyGivenNames s_7
  have h_8 : KG z s_7 := KG_mu h_6
  clear_value s_7
  extract_lets +onlyGivenNames s_9
  have h_10 : KG z s_9 := KG_mu h_8
  clear_value s_9
  extract_lets +onlyGivenNames s_11
  have h_12 : KG z s_11 := KG_mu h_10
  clear_value s_11
  extract_lets +onlyGivenNames s_13
  have h_14 : KG z s_13 := KG_mu h_12
  clear_value s_13
  refine pk_b1 pk_top (fun _ _ => ?_)
  refine pk_ite ?_ ?_
  · exact (G_X12_saysIn_100 h_14)
  · exact (G_X12_saysIn_100 h_14)
theorem G_X12_saysNow {z : mG} {a1 : Int32} {a2 : Int32} {s : mG} (h : KG z s) : pk (F_X12_saysNow a1 a2 s) (fun τ => KG z τ.2) := by
  unfold F_X12_saysNow
  refine pk_nn ?_
  refine pk_b2 (G_X12_saysIn h) (fun _ s_1 (h_2 : KG z s_1) => ?_)
  exact pk_some h_2
theorem G_X12_sureOf_70 {z : mG} {x1 : Int32} {x2 : Int64} {x4 : Int32} {s : mG} (h : KG z s) : pk (F_X12_sureOf_70 x1 x2 x4 s) (se (fun τ => KG z τ.2.2.2) (fun τ => KG z τ.2)) := by
  unfold F_X12_sureOf_70
  exact pk_some h
theorem G_X12_sureOf_B16 {z : mG} {x1 : Int32} {x2 : Int64} {x4 : Int32} {s : mG} (h : KG z s) : pk (F_X12_sureOf_B16 x1 x2 x4 s) (se (fun τ => KG z τ.2.2.2) (fun τ => KG z τ.2)) := by
  unfold F_X12_sureOf_B16
  refine pk_ite ?_ ?_
  · exact pk_some h
  · refine pk_nn ?_
    refine pk_ite ?_ ?_
    · exact (G_X12_sureOf_70 h)
    · refine pk_nn ?_
      refine pk_b1 pk_top (fun _ _ => ?_)
      exact (G_X12_sureOf_70 h)
theorem G_X12_sureOf_L16 {z : mG} {x1 : Int32} {x2 : Int64} {x4 : Int32} {s : mG} (h : KG z s) : pk (F_X12_sureOf_L16 x1 x2 x4 s) (fun τ => KG z τ.2) := by
  unfold F_X12_sureOf_L16
  refine pk_whl (fun v => KG z v.2.2.2) h (fun v hv => ?_)
  obtain ⟨y0, y1, y2, y3⟩ := v
  exact G_X12_sureOf_B16 hv
theorem G_X12_sureOf {z : mG} {a1 : Int32} {s : mG} (h : KG z s) : pk (F_X12_sureOf a1 s) (fun τ => KG z τ.2) := by
  unfold F_X12_sureOf
  refine pk_b2 (G_X12_saysNow h) (fun _ s_1 (h_2 : KG z s_1) => ?_)
  extract_lets +onlyGivenNames v_3
  clear_value v_3
  exact (G_X12_sureOf_L16 h_2)
theorem G_X12_say_22 {z : mG} {s : mG} (h : KG z s) : pk (F_X12_say_22 s) (fun τ => KG z τ.2) := by
  unfold F_X12_say_22
  exact pk_some h
theorem G_X12_say {z : mG} {a1 : Int32} {a2 : Int32} {a3 : Int32} {s : mG} (h : KG z s) : pk (F_X12_say a1 a2 a3 s) (fun τ => KG z τ.2) := by
  unfold F_X12_say
  refine pk_b1 pk_top (fun _ _ => ?_)
  refine pk_ite ?_ ?_
  · exact (G_X12_say_22 h)
  · refine pk_b1 pk_top (fun _ _ => ?_)
    refine pk_ite ?_ ?_
    · exact (G_X12_say_22 h)
    · refine pk_b1 pk_top (fun _ _ => ?_)
      refine pk_ite ?_ ?_
      · exact (G_X12_say_22 h)
      · refine pk_b2 (G_X12_sureOf h) (fun _ s_1 (h_2 : KG z s_1) => ?_)
        refine pk_ite ?_ ?_
        · exact pk_some h_2
        · exact pk_some h_2
end
