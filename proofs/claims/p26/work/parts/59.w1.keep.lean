noncomputable section
theorem K_X6_passHour_L4 {v0 : Int32} {x1 : Int32} {x2 : Int32} {s : mG} (h : KV 0 2 v0 s) : pk (F_X6_passHour_L4 x1 x2 s) (fun τ => KV 0 2 v0 τ.2) := by
  unfold F_X6_passHour_L4
  refine pk_whl (fun v => KV 0 2 v0 v.2.2) h (fun v hv => ?_)
  obtain ⟨y0, y1, y2⟩ := v
  exact K_X6_passHour_B4 hv
theorem K_X6_passHour {v0 : Int32} {s : mG} (h : KV 0 2 v0 s) : pk (F_X6_passHour s) (fun τ => KV 0 2 v0 τ.2) := by
  unfold F_X6_passHour
  exact (K_X6_passHour_L4 h)
theorem K_X7_takeFour_B3 {v0 : Int32} {x1 : Int32} {x2 : Int32} {s : mG} (h : KV 0 2 v0 s) : pk (F_X7_takeFour_B3 x1 x2 s) (se (fun τ => KV 0 2 v0 τ.2.2) (fun τ => KV 0 2 v0 τ)) := by
  unfold F_X7_takeFour_B3
  refine pk_ite ?_ ?_
  · exact pk_some h
  · refine pk_b1 (K_X11_put (by decide) h) (fun s_1 (h_2 : KV 0 2 v0 s_1) => ?_)
    extract_lets +onlyGivenNames s_3
    have h_4 : KV 0 2 v0 s_3 := KV_mu h_2 (Or.inl (by decide))
    clear_value s_3
    exact pk_some h_4
theorem K_X7_takeFour_L3 {v0 : Int32} {x1 : Int32} {x2 : Int32} {s : mG} (h : KV 0 2 v0 s) : pk (F_X7_takeFour_L3 x1 x2 s) (fun τ => KV 0 2 v0 τ) := by
  unfold F_X7_takeFour_L3
  refine pk_whl (fun v => KV 0 2 v0 v.2.2) h (fun v hv => ?_)
  obtain ⟨y0, y1, y2⟩ := v
  exact K_X7_takeFour_B3 hv
theorem K_X7_takeFour {v0 : Int32} {a1 : Int32} {s : mG} (h : KV 0 2 v0 s) : pk (F_X7_takeFour a1 s) (fun τ => KV 0 2 v0 τ) := by
  unfold F_X7_takeFour
  exact (K_X7_takeFour_L3 h)
theorem K_X7_stepOn {v0 : Int32} {s : mG} (h : KV 0 2 v0 s) : pk (F_X7_stepOn s) (fun τ => KV 0 2 v0 τ) := by
  unfold F_X7_stepOn
  extract_lets +onlyGivenNames s_1
  have h_2 : KV 0 2 v0 s_1 := KV_mu h (Or.inl (by decide))
  clear_value s_1
  refine pk_b1 pk_top (fun _ _ => ?_)
  extract_lets +onlyGivenNames s_3
  have h_4 : KV 0 2 v0 s_3 := KV_mu h_2 (Or.inl (by decide))
  clear_value s_3
  refine pk_b1 pk_top (fun _ _ => ?_)
  extract_lets +onlyGivenNames s_5
  have h_6 : KV 0 2 v0 s_5 := KV_mu h_4 (Or.inl (by decide))
  clear_value s_5
  refine pk_b1 pk_top (fun _ _ => ?_)
  extract_lets +onlyGivenNames s_7
  have h_8 : KV 0 2 v0 s_7 := KV_mu h_6 (Or.inl (by decide))
  clear_value s_7
  exact pk_some h_8
theorem K_X7_skipBlanks_41 {v0 : Int32} {s : mG} (h : KV 0 2 v0 s) : pk (F_X7_skipBlanks_41 s) (fun τ => KV 0 2 v0 τ.2) := by
  unfold F_X7_skipBlanks_41
  refine pk_ite ?_ ?_
  · exact pk_some h
  · exact pk_some h
theorem K_X7_skipBlanks_B0 {v0 : Int32} {s : mG} (h : KV 0 2 v0 s) : pk (F_X7_skipBlanks_B0 s) (se (fun τ => KV 0 2 v0 τ) (fun τ => KV 0 2 v0 τ.2)) := by
  unfold F_X7_skipBlanks_B0
  refine pk_ite ?_ ?_
  · refine pk_b1r ?_
    exact (K_X7_skipBlanks_41 h)
  · refine pk_b1 pk_top (fun _ _ => ?_)
    refine pk_b1 pk_top (fun _ _ => ?_)
    refine pk_ite ?_ ?_
    · refine pk_b1r ?_
      exact (K_X7_skipBlanks_41 h)
    · extract_lets +onlyGivenNames s_1
      have h_2 : KV 0 2 v0 s_1 := KV_mu h (Or.inl (by decide))
      clear_value s_1
      exact pk_some h_2
theorem K_X7_skipBlanks_L0 {v0 : Int32} {s : mG} (h : KV 0 2 v0 s) : pk (F_X7_skipBlanks_L0 s) (fun τ => KV 0 2 v0 τ.2) := by
  unfold F_X7_skipBlanks_L0
  refine pk_whl (fun v => KV 0 2 v0 v) h (fun v hv => ?_)
  exact K_X7_skipBlanks_B0 hv
theorem K_X7_skipBlanks {v0 : Int32} {s : mG} (h : KV 0 2 v0 s) : pk (F_X7_skipBlanks s) (fun τ => KV 0 2 v0 τ.2) := by
  unfold F_X7_skipBlanks
  exact (K_X7_skipBlanks_L0 h)
theorem K_X7_addToken {v0 : Int32} {a1 : Int32} {a2 : Int32} {a3 : Int32} {s : mG} (h : KV 0 2 v0 s) : pk (F_X7_addToken a1 a2 a3 s) (fun τ => KV 0 2 v0 τ) := by
  unfold F_X7_addToken
  refine pk_b2 (K_X10_add h) (fun _ s_1 (h_2 : KV 0 2 v0 s_1) => ?_)
  refine pk_b1 (K_X10_put h_2) (fun s_3 (h_4 : KV 0 2 v0 s_3) => ?_)
  refine pk_b1 (K_X10_put h_4) (fun s_5 (h_6 : KV 0 2 v0 s_5) => ?_)
  refine pk_b1 (K_X10_put h_6) (fun s_7 (h_8 : KV 0 2 v0 s_7) => ?_)
  exact pk_some h_8
theorem K_X7_splitWord_68 {v0 : Int32} {x1 : Int32} {y1 : Int32} {s : mG} (h : KV 0 2 v0 s) : pk (F_X7_splitWord_68 x1 y1 s) (fun τ => KV 0 2 v0 τ) := by
  unfold F_X7_splitWord_68
  refine pk_b1 (K_X7_addToken h) (fun s_1 (h_2 : KV 0 2 v0 s_1) => ?_)
  exact pk_some h_2
theorem K_X7_splitWord_46 {v0 : Int32} {x1 : Int32} {s : mG} (h : KV 0 2 v0 s) : pk (F_X7_splitWord_46 x1 s) (fun τ => KV 0 2 v0 τ) := by
  unfold F_X7_splitWord_46
  refine pk_b1 pk_top (fun _ _ => ?_)
  refine pk_ite ?_ ?_
  · exact (K_X7_splitWord_68 h)
  · exact (K_X7_splitWord_68 h)
theorem K_X7_splitWord_B5 {v0 : Int32} {x1 : Int32} {s : mG} (h : KV 0 2 v0 s) : pk (F_X7_splitWord_B5 x1 s) (se (fun τ => KV 0 2 v0 τ.2) (fun τ => KV 0 2 v0 τ)) := by
  unfold F_X7_splitWord_B5
  refine pk_ite ?_ ?_
  · refine pk_b1r ?_
    exact (K_X7_splitWord_46 h)
  · refine pk_b1 pk_top (fun _ _ => ?_)
    refine pk_b1 pk_top (fun _ _ => ?_)
    refine pk_ite ?_ ?_
    · refine pk_b1r ?_
      exact (K_X7_splitWord_46 h)
    · extract_lets +onlyGivenNames s_1
      have h_2 : KV 0 2 v0 s_1 := KV_mu h (Or.inl (by decide))
      clear_value s_1
      exact pk_some h_2
theorem K_X7_splitWord_L5 {v0 : Int32} {x1 : Int32} {s : mG} (h : KV 0 2 v0 s) : pk (F_X7_splitWord_L5 x1 s) (fun τ => KV 0 2 v0 τ) := by
  unfold F_X7_splitWord_L5
  refine pk_whl (fun v => KV 0 2 v0 v.2) h (fun v hv => ?_)
  obtain ⟨y0, y1⟩ := v
  exact K_X7_splitWord_B5 hv
theorem K_X7_splitWord {v0 : Int32} {s : mG} (h : KV 0 2 v0 s) : pk (F_X7_splitWord s) (fun τ => KV 0 2 v0 τ) := by
  unfold F_X7_splitWord
  exact (K_X7_splitWord_L5 h)
theorem K_X7_splitNumber_100 {v0 : Int32} {x1 : Int32} {x2 : Int32} {y1 : Int32} {s : mG} (h : KV 0 2 v0 s) : pk (F_X7_splitNumber_100 x1 x2 y1 s) (fun τ => KV 0 2 v0 τ) := by
  unfold F_X7_splitNumber_100
  refine pk_b1 (K_X7_addToken h) (fun s_1 (h_2 : KV 0 2 v0 s_1) => ?_)
  exact pk_some h_2
theorem K_X7_splitNumber_82 {v0 : Int32} {x1 : Int32} {x2 : Int32} {s : mG} (h : KV 0 2 v0 s) : pk (F_X7_splitNumber_82 x1 x2 s) (fun τ => KV 0 2 v0 τ) := by
  unfold F_X7_splitNumber_82
  refine pk_ite ?_ ?_
  · exact (K_X7_splitNumber_100 h)
  · exact (K_X7_splitNumber_100 h)
theorem K_X7_splitNumber_68 {v0 : Int32} {x1 : Int32} {y0 : Int32} {s : mG} (h : KV 0 2 v0 s) : pk (F_X7_splitNumber_68 x1 y0 s) (se (fun τ => KV 0 2 v0 τ.2.2) (fun τ => KV 0 2 v0 τ)) := by
  unfold F_X7_splitNumber_68
  extract_lets +onlyGivenNames s_1
  have h_2 : KV 0 2 v0 s_1 := KV_mu h (Or.inl (by decide))
  clear_value s_1
  exact pk_some h_2
theorem K_X7_splitNumber_B7 {v0 : Int32} {x1 : Int32} {x2 : Int32} {s : mG} (h : KV 0 2 v0 s) : pk (F_X7_splitNumber_B7 x1 x2 s) (se (fun τ => KV 0 2 v0 τ.2.2) (fun τ => KV 0 2 v0 τ)) := by
  unfold F_X7_splitNumber_B7
  refine pk_ite ?_ ?_
  · refine pk_b1r ?_
    exact (K_X7_splitNumber_82 h)
  · refine pk_b1 pk_top (fun _ _ => ?_)
    refine pk_b1 pk_top (fun _ _ => ?_)
    refine pk_ite ?_ ?_
    · refine pk_b1r ?_
      exact (K_X7_splitNumber_82 h)
    · refine pk_ite ?_ ?_
      · exact (K_X7_splitNumber_68 h)
      · refine pk_b1 pk_top (fun _ _ => ?_)
        exact (K_X7_splitNumber_68 h)
theorem K_X7_splitNumber_L7 {v0 : Int32} {x1 : Int32} {x2 : Int32} {s : mG} (h : KV 0 2 v0 s) : pk (F_X7_splitNumber_L7 x1 x2 s) (fun τ => KV 0 2 v0 τ) := by
  unfold F_X7_splitNumber_L7
  refine pk_whl (fun v => KV 0 2 v0 v.2.2) h (fun v hv => ?_)
  obtain ⟨y0, y1, y2⟩ := v
  exact K_X7_splitNumber_B7 hv
theorem K_X7_splitNumber {v0 : Int32} {s : mG} (h : KV 0 2 v0 s) : pk (F_X7_splitNumber s) (fun τ => KV 0 2 v0 τ) := by
  unfold F_X7_splitNumber
  exact (K_X7_splitNumber_L7 h)
theorem K_X7_splitTape_94 {v0 : Int32} {s : mG} (h : KV 0 2 v0 s) : pk (F_X7_splitTape_94 s) (fun τ => KV 0 2 v0 τ) := by
  unfold F_X7_splitTape_94
  refine pk_b1 (K_X7_addToken h) (fun s_1 (h_2 : KV 0 2 v0 s_1) => ?_)
  exact pk_some h_2
theorem K_X7_splitTape_88 {v0 : Int32} {x1 : Int32} {s : mG} (h : KV 0 2 v0 s) : pk (F_X7_splitTape_88 x1 s) (se (fun τ => KV 0 2 v0 τ.2) (fun τ => KV 0 2 v0 τ)) := by
  unfold F_X7_splitTape_88
  exact pk_some h
theorem K_X7_splitTape_B14 {v0 : Int32} {x1 : Int32} {s : mG} (h : KV 0 2 v0 s) : pk (F_X7_splitTape_B14 x1 s) (se (fun τ => KV 0 2 v0 τ.2) (fun τ => KV 0 2 v0 τ)) := by
  unfold F_X7_splitTape_B14
  refine pk_ite ?_ ?_
  · refine pk_b1r ?_
    exact (K_X7_splitTape_94 h)
  · refine pk_b2 (K_X7_skipBlanks h) (fun _ s_1 (h_2 : KV 0 2 v0 s_1) => ?_)
    refine pk_ite ?_ ?_
    · refine pk_b1r ?_
      exact (K_X7_splitTape_94 h_2)
    · refine pk_b1 pk_top (fun _ _ => ?_)
      refine pk_b1 pk_top (fun _ _ => ?_)
      refine pk_ite ?_ ?_
      · refine pk_b1 pk_top (fun _ _ => ?_)
        refine pk_ite ?_ ?_
        · refine pk_b1 (K_X7_addToken h_2) (fun s_3 (h_4 : KV 0 2 v0 s_3) => ?_)
          extract_lets +onlyGivenNames s_5
          have h_6 : KV 0 2 v0 s_5 := KV_mu h_4 (Or.inl (by decide))
          clear_value s_5
          exact (K_X7_splitTape_88 h_6)
        · refine pk_b1 (K_X7_splitNumber h_2) (fun s_7 (h_8 : KV 0 2 v0 s_7) => ?_)
          exact (K_X7_splitTape_88 h_8)
      · refine pk_b1 (K_X7_splitWord h_2) (fun s_9 (h_10 : KV 0 2 v0 s_9) => ?_)
        exact (K_X7_splitTape_88 h_10)
theorem K_X7_splitTape_L14 {v0 : Int32} {x1 : Int32} {s : mG} (h : KV 0 2 v0 s) : pk (F_X7_splitTape_L14 x1 s) (fun τ => KV 0 2 v0 τ) := by
  unfold F_X7_splitTape_L14
  refine pk_whl (fun v => KV 0 2 v0 v.2) h (fun v hv => ?_)
  obtain ⟨y0, y1⟩ := v
  exact K_X7_splitTape_B14 hv
theorem K_X7_splitTape {v0 : Int32} {s : mG} (h : KV 0 2 v0 s) : pk (F_X7_splitTape s) (fun τ => KV 0 2 v0 τ) := by
  unfold F_X7_splitTape
  refine pk_b1 (K_X10_clear h) (fun s_1 (h_2 : KV 0 2 v0 s_1) => ?_)
  extract_lets +onlyGivenNames s_3
  have h_4 : KV 0 2 v0 s_3 := KV_mu h_2 (Or.inl (by decide))
  clear_value s_3
  exact (K_X7_splitTape_L14 h_4)
theorem K_X7_refuse {v0 : Int32} {a1 : Int32} {s : mG} (h : KV 0 2 v0 s) : pk (F_X7_refuse a1 s) (fun τ => KV 0 2 v0 τ.2) := by
  unfold F_X7_refuse
  extract_lets +onlyGivenNames s_1
  have h_2 : KV 0 2 v0 s_1 := KV_mu h (Or.inl (by decide))
  clear_value s_1
  extract_lets +onlyGivenNames s_3
  have h_4 : KV 0 2 v0 s_3 := KV_mu h_2 (Or.inl (by decide))
  clear_value s_3
  exact pk_some h_4
theorem K_X7_pass {v0 : Int32} {a1 : Int32} {s : mG} (h : KV 0 2 v0 s) : pk (F_X7_pass a1 s) (fun τ => KV 0 2 v0 τ.2) := by
  unfold F_X7_pass
  refine pk_ite ?_ ?_
  · refine pk_b1 (K_X7_stepOn h) (fun s_1 (h_2 : KV 0 2 v0 s_1) => ?_)
    exact pk_some h_2
  · refine pk_b2 (K_X7_refuse h) (fun _ s_3 (h_4 : KV 0 2 v0 s_3) => ?_)
    refine pk_pp ?_
    exact pk_some h_4
theorem K_X7_readHead_30 {v0 : Int32} {a2 : Nat} {s : mG} (h : KV 0 2 v0 s) : pk (F_X7_readHead_30 a2 s) (fun τ => KV 0 2 v0 τ.2) := by
  unfold F_X7_readHead_30
  exact pk_some h
theorem K_X7_readHead {v0 : Int32} {a2 : Nat} {a1 : Int32} {s : mG} (h : KV 0 2 v0 s) : pk (F_X7_readHead a2 a1 s) (fun τ => KV 0 2 v0 τ.2) := by
  unfold F_X7_readHead
  refine pk_ite ?_ ?_
  · refine pk_b2 (K_X10_add h) (fun _ s_1 (h_2 : KV 0 2 v0 s_1) => ?_)
    refine pk_ite ?_ ?_
    · refine pk_b2 (K_X7_refuse h_2) (fun _ s_3 (h_4 : KV 0 2 v0 s_3) => ?_)
      refine pk_ite ?_ ?_
      · exact pk_some h_4
      · exact (K_X7_readHead_30 h_4)
    · exact (K_X7_readHead_30 h_2)
  · refine pk_b2 (K_X7_refuse h) (fun _ s_5 (h_6 : KV 0 2 v0 s_5) => ?_)
    refine pk_pp ?_
    exact pk_some h_6
theorem K_X7_readNamed {v0 : Int32} {a4 : Nat} {a1 : Int32} {a2 : Int32} {a3 : Int32} {a5 : Int32} {s : mG} (h : KV 0 2 v0 s) : pk (F_X7_readNamed a4 a1 a2 a3 a5 s) (fun τ => KV 0 2 v0 τ.2) := by
  unfold F_X7_readNamed
  refine pk_b2 (K_X7_pass h) (fun _ s_1 (h_2 : KV 0 2 v0 s_1) => ?_)
  refine pk_ite ?_ ?_
  · exact pk_some h_2
  · refine pk_ite ?_ ?_
    · refine pk_b1 pk_top (fun _ _ => ?_)
      refine pk_ite ?_ ?_
      · refine pk_b2 (K_X7_refuse h_2) (fun _ s_3 (h_4 : KV 0 2 v0 s_3) => ?_)
        refine pk_pp ?_
        exact pk_some h_4
      · refine pk_b1 (K_X10_put h_2) (fun s_5 (h_6 : KV 0 2 v0 s_5) => ?_)
        refine pk_b1 (K_X7_stepOn h_6) (fun s_7 (h_8 : KV 0 2 v0 s_7) => ?_)
        exact pk_some h_8
    · refine pk_b2 (K_X7_refuse h_2) (fun _ s_9 (h_10 : KV 0 2 v0 s_9) => ?_)
      refine pk_pp ?_
      exact pk_some h_10
theorem K_X7_readSign_71 {v0 : Int32} {s : mG} (h : KV 0 2 v0 s) : pk (F_X7_readSign_71 s) (fun τ => KV 0 2 v0 τ.2) := by
  unfold F_X7_readSign_71
  exact pk_some h
theorem K_X7_readSign {v0 : Int32} {s : mG} (h : KV 0 2 v0 s) : pk (F_X7_readSign s) (fun τ => KV 0 2 v0 τ.2) := by
  unfold F_X7_readSign
  refine pk_b2 (K_X7_readHead h) (fun _ s_1 (h_2 : KV 0 2 v0 s_1) => ?_)
  refine pk_ite ?_ ?_
  · exact pk_some h_2
  · refine pk_b1 (K_X7_stepOn h_2) (fun s_3 (h_4 : KV 0 2 v0 s_3) => ?_)
    refine pk_b2 (K_X7_readNamed h_4) (fun _ s_5 (h_6 : KV 0 2 v0 s_5) => ?_)
    refine pk_ite ?_ ?_
    · exact (K_X7_readSign_71 h_6)
    · refine pk_b2 (K_X7_readNamed h_6) (fun _ s_7 (h_8 : KV 0 2 v0 s_7) => ?_)
      refine pk_ite ?_ ?_
      · exact (K_X7_readSign_71 h_8)
      · refine pk_b2 (K_X7_pass h_8) (fun _ s_9 (h_10 : KV 0 2 v0 s_9) => ?_)
        refine pk_ite ?_ ?_
        · exact (K_X7_readSign_71 h_10)
        · exact pk_some h_10
theorem K_X7_readShift_97 {v0 : Int32} {s : mG} (h : KV 0 2 v0 s) : pk (F_X7_readShift_97 s) (fun τ => KV 0 2 v0 τ.2) := by
  unfold F_X7_readShift_97
  exact pk_some h
theorem K_X7_readShift {v0 : Int32} {s : mG} (h : KV 0 2 v0 s) : pk (F_X7_readShift s) (fun τ => KV 0 2 v0 τ.2) := by
  unfold F_X7_readShift
  refine pk_b2 (K_X7_readHead h) (fun _ s_1 (h_2 : KV 0 2 v0 s_1) => ?_)
  refine pk_ite ?_ ?_
  · exact (K_X7_readShift_97 h_2)
  · refine pk_b2 (K_X7_readNamed h_2) (fun _ s_3 (h_4 : KV 0 2 v0 s_3) => ?_)
    refine pk_ite ?_ ?_
    · exact (K_X7_readShift_97 h_4)
    · refine pk_b2 (K_X7_readNamed h_4) (fun _ s_5 (h_6 : KV 0 2 v0 s_5) => ?_)
      refine pk_ite ?_ ?_
      · exact (K_X7_readShift_97 h_6)
      · refine pk_b2 (K_X7_readNamed h_6) (fun _ s_7 (h_8 : KV 0 2 v0 s_7) => ?_)
        refine pk_ite ?_ ?_
        · exact (K_X7_readShift_97 h_8)
        · refine pk_b2 (K_X7_readNamed h_8) (fun _ s_9 (h_10 : KV 0 2 v0 s_9) => ?_)
          refine pk_ite ?_ ?_
          · exact (K_X7_readShift_97 h_10)
          · refine pk_b2 (K_X7_pass h_10) (fun _ s_11 (h_12 : KV 0 2 v0 s_11) => ?_)
            refine pk_ite ?_ ?_
            · exact (K_X7_readShift_97 h_12)
            · exact pk_some h_12
theorem K_X10_push {v0 : Int32} {t : Nat} {a1 : Int32} {s : mG} (h : KV 0 2 v0 s) : pk (F_X10_push t a1 s) (fun τ => KV 0 2 v0 τ) := by
  unfold F_X10_push
  refine pk_ite ?_ ?_
  · exact pk_some h
  · extract_lets +onlyGivenNames s_1
    have h_2 : KV 0 2 v0 s_1 := KV_mu h (Or.inr (by decide))
    clear_value s_1
    refine pk_b1 (K_X10_put h_2) (fun s_3 (h_4 : KV 0 2 v0 s_3) => ?_)
    exact pk_some h_4
theorem K_X7_emitIfAny {v0 : Int32} {a1 : Int32} {s : mG} (h : KV 0 2 v0 s) : pk (F_X7_emitIfAny a1 s) (fun τ => KV 0 2 v0 τ) := by
  unfold F_X7_emitIfAny
  refine pk_ite ?_ ?_
  · exact pk_some h
  · refine pk_b1 (K_X10_push h) (fun s_1 (h_2 : KV 0 2 v0 s_1) => ?_)
    exact pk_some h_2
theorem K_X7_readUnit_68 {v0 : Int32} {s : mG} (h : KV 0 2 v0 s) : pk (F_X7_readUnit_68 s) (fun τ => KV 0 2 v0 τ.2) := by
  unfold F_X7_readUnit_68
  refine pk_b1 (K_X7_stepOn h) (fun s_1 (h_2 : KV 0 2 v0 s_1) => ?_)
  exact pk_some h_2
theorem K_X7_readUnit_62 {v0 : Int32} {s : mG} (h : KV 0 2 v0 s) : pk (F_X7_readUnit_62 s) (fun τ => KV 0 2 v0 τ.2) := by
  unfold F_X7_readUnit_62
  refine pk_b2 (K_X7_refuse h) (fun _ s_1 (h_2 : KV 0 2 v0 s_1) => ?_)
  refine pk_pp ?_
  exact pk_some h_2
theorem K_X7_readUnit {v0 : Int32} {s : mG} (h : KV 0 2 v0 s) : pk (F_X7_readUnit s) (fun τ => KV 0 2 v0 τ.2) := by
  unfold F_X7_readUnit
  extract_lets +onlyGivenNames v_1
  clear_value v_1
  refine pk_ite ?_ ?_
  · refine pk_b1 (K_X10_push h) (fun s_2 (h_3 : KV 0 2 v0 s_2) => ?_)
    exact (K_X7_readUnit_68 h_3)
  · refine pk_ite ?_ ?_
    · exact (K_X7_readUnit_62 h)
    · refine pk_ite ?_ ?_
      · exact (K_X7_readUnit_62 h)
      · refine pk_b1 (K_X10_push h) (fun s_4 (h_5 : KV 0 2 v0 s_4) => ?_)
        exact (K_X7_readUnit_68 h_5)
theorem K_X7_readPart {v0 : Int32} {s : mG} (h : KV 0 2 v0 s) : pk (F_X7_readPart s) (fun τ => KV 0 2 v0 τ.2) := by
  unfold F_X7_readPart
  refine pk_ite ?_ ?_
  · refine pk_ite ?_ ?_
    · refine pk_b2 (K_X7_refuse h) (fun _ s_1 (h_2 : KV 0 2 v0 s_1) => ?_)
      refine pk_pp ?_
      exact pk_some h_2
    · refine pk_b1 (K_X10_push h) (fun s_3 (h_4 : KV 0 2 v0 s_3) => ?_)
      refine pk_b1 (K_X7_stepOn h_4) (fun s_5 (h_6 : KV 0 2 v0 s_5) => ?_)
      exact pk_some h_6
  · refine pk_b2 (K_X7_refuse h) (fun _ s_7 (h_8 : KV 0 2 v0 s_7) => ?_)
    refine pk_pp ?_
    exact pk_some h_8
theorem K_X7_readSum_114 {v0 : Int32} {x1 : Int32} {s : mG} (h : KV 0 2 v0 s) : pk (F_X7_readSum_114 x1 s) (fun τ => KV 0 2 v0 τ.2) := by
  unfold F_X7_readSum_114
  refine pk_b1 (K_X7_emitIfAny h) (fun s_1 (h_2 : KV 0 2 v0 s_1) => ?_)
  exact pk_some h_2
theorem K_X7_readSum_91 {v0 : Int32} {s : mG} (h : KV 0 2 v0 s) : pk (F_X7_readSum_91 s) (fun τ => KV 0 2 v0 τ.2) := by
  unfold F_X7_readSum_91
  exact pk_some h
theorem K_X7_readSum_105 {v0 : Int32} {x1 : Int32} {x2 : Int32} {y1 : Int32} {s : mG} (h : KV 0 2 v0 s) : pk (F_X7_readSum_105 x1 x2 y1 s) (se (fun τ => KV 0 2 v0 τ.2.2) (fun τ => KV 0 2 v0 τ.2)) := by
  unfold F_X7_readSum_105
  refine pk_b1 (K_X7_emitIfAny h) (fun s_1 (h_2 : KV 0 2 v0 s_1) => ?_)
  exact pk_some h_2
theorem K_X7_readSum_93 {v0 : Int32} {x1 : Int32} {x2 : Int32} {x3 : Int32} {s : mG} (h : KV 0 2 v0 s) : pk (F_X7_readSum_93 x1 x2 x3 s) (se (fun τ => KV 0 2 v0 τ.2.2) (fun τ => KV 0 2 v0 τ.2)) := by
  unfold F_X7_readSum_93
  refine pk_ite ?_ ?_
  · exact (K_X7_readSum_105 h)
  · exact (K_X7_readSum_105 h)
theorem K_X7_readSum_68 {v0 : Int32} {x1 : Int32} {x2 : Int32} {x3 : Int32} {s : mG} (h : KV 0 2 v0 s) : pk (F_X7_readSum_68 x1 x2 x3 s) (se (fun τ => KV 0 2 v0 τ.2.2) (fun τ => KV 0 2 v0 τ.2)) := by
  unfold F_X7_readSum_68
  refine pk_ite ?_ ?_
  · refine pk_b2 (K_X7_readPart h) (fun _ s_1 (h_2 : KV 0 2 v0 s_1) => ?_)
    refine pk_ite ?_ ?_
    · refine pk_b1r ?_
      exact (K_X7_readSum_91 h_2)
    · exact (K_X7_readSum_93 h_2)
  · refine pk_b2 (K_X7_readUnit h) (fun _ s_3 (h_4 : KV 0 2 v0 s_3) => ?_)
    refine pk_ite ?_ ?_
    · refine pk_b1r ?_
      exact (K_X7_readSum_91 h_4)
    · exact (K_X7_readSum_93 h_4)
theorem K_X7_readSum_67 {v0 : Int32} {x2 : Int32} {x3 : Int32} {y0 : Int32} {s : mG} (h : KV 0 2 v0 s) : pk (F_X7_readSum_67 x2 x3 y0 s) (se (fun τ => KV 0 2 v0 τ.2.2) (fun τ => KV 0 2 v0 τ.2)) := by
  unfold F_X7_readSum_67
  exact (K_X7_readSum_68 h)
theorem K_X7_readSum_51 {v0 : Int32} {x1 : Int32} {x2 : Int32} {x3 : Int32} {s : mG} (h : KV 0 2 v0 s) : pk (F_X7_readSum_51 x1 x2 x3 s) (se (fun τ => KV 0 2 v0 τ.2.2) (fun τ => KV 0 2 v0 τ.2)) := by
  unfold F_X7_readSum_51
  refine pk_b1 (K_X7_emitIfAny h) (fun s_1 (h_2 : KV 0 2 v0 s_1) => ?_)
  refine pk_ite ?_ ?_
  · exact (K_X7_readSum_67 h_2)
  · exact (K_X7_readSum_67 h_2)
theorem K_X7_readSum_B13 {v0 : Int32} {x1 : Int32} {x2 : Int32} {s : mG} (h : KV 0 2 v0 s) : pk (F_X7_readSum_B13 x1 x2 s) (se (fun τ => KV 0 2 v0 τ.2.2) (fun τ => KV 0 2 v0 τ.2)) := by
  unfold F_X7_readSum_B13
  refine pk_ite ?_ ?_
  · refine pk_b1r ?_
    exact (K_X7_readSum_114 h)
  · refine pk_b1 pk_top (fun _ _ => ?_)
    refine pk_ite ?_ ?_
    · refine pk_b1r ?_
      exact (K_X7_readSum_114 h)
    · refine pk_b1 (K_X7_stepOn h) (fun s_1 (h_2 : KV 0 2 v0 s_1) => ?_)
      refine pk_ite ?_ ?_
      · exact (K_X7_readSum_51 h_2)
      · refine pk_ite ?_ ?_
        · exact (K_X7_readSum_51 h_2)
        · exact (K_X7_readSum_68 h_2)
theorem K_X7_readSum_L13 {v0 : Int32} {x1 : Int32} {x2 : Int32} {s : mG} (h : KV 0 2 v0 s) : pk (F_X7_readSum_L13 x1 x2 s) (fun τ => KV 0 2 v0 τ.2) := by
  unfold F_X7_readSum_L13
  refine pk_whl (fun v => KV 0 2 v0 v.2.2) h (fun v hv => ?_)
  obtain ⟨y0, y1, y2⟩ := v
  exact K_X7_readSum_B13 hv
theorem K_X7_readSum {v0 : Int32} {s : mG} (h : KV 0 2 v0 s) : pk (F_X7_readSum s) (fun τ => KV 0 2 v0 τ.2) := by
  unfold F_X7_readSum
  refine pk_b2 (K_X7_readUnit h) (fun _ s_1 (h_2 : KV 0 2 v0 s_1) => ?_)
  refine pk_ite ?_ ?_
  · exact pk_some h_2
  · exact (K_X7_readSum_L13 h_2)
theorem K_X7_hold {v0 : Int32} {a1 : Int32} {s : mG} (h : KV 0 2 v0 s) : pk (F_X7_hold a1 s) (fun τ => KV 0 2 v0 τ) := by
  unfold F_X7_hold
  refine pk_b1 (K_X11_put (by decide) h) (fun s_1 (h_2 : KV 0 2 v0 s_1) => ?_)
  extract_lets +onlyGivenNames s_3
  have h_4 : KV 0 2 v0 s_3 := KV_mu h_2 (Or.inl (by decide))
  clear_value s_3
  exact pk_some h_4
theorem K_X7_readOpenings_71 {v0 : Int32} {s : mG} (h : KV 0 2 v0 s) : pk (F_X7_readOpenings_71 s) (fun τ => KV 0 2 v0 τ.2) := by
  unfold F_X7_readOpenings_71
  exact pk_some h
theorem K_X7_readOpenings_28 {v0 : Int32} {x1 : Int32} {s : mG} (h : KV 0 2 v0 s) : pk (F_X7_readOpenings_28 x1 s) (se (fun τ => KV 0 2 v0 τ.2) (fun τ => KV 0 2 v0 τ.2)) := by
  unfold F_X7_readOpenings_28
  refine pk_ite ?_ ?_
  · refine pk_b1 (K_X7_hold h) (fun s_1 (h_2 : KV 0 2 v0 s_1) => ?_)
    extract_lets +onlyGivenNames s_3
    have h_4 : KV 0 2 v0 s_3 := KV_mu h_2 (Or.inl (by decide))
    clear_value s_3
    refine pk_b1 (K_X7_stepOn h_4) (fun s_5 (h_6 : KV 0 2 v0 s_5) => ?_)
    exact pk_some h_6
  · refine pk_b2 (K_X7_refuse h) (fun _ s_7 (h_8 : KV 0 2 v0 s_7) => ?_)
    refine pk_pp ?_
    exact pk_some h_8
theorem K_X7_readOpenings_B2 {v0 : Int32} {x1 : Int32} {s : mG} (h : KV 0 2 v0 s) : pk (F_X7_readOpenings_B2 x1 s) (se (fun τ => KV 0 2 v0 τ.2) (fun τ => KV 0 2 v0 τ.2)) := by
  unfold F_X7_readOpenings_B2
  refine pk_ite ?_ ?_
  · refine pk_b1r ?_
    exact (K_X7_readOpenings_71 h)
  · refine pk_ite ?_ ?_
    · exact (K_X7_readOpenings_28 h)
    · refine pk_ite ?_ ?_
      · exact (K_X7_readOpenings_28 h)
      · refine pk_b1r ?_
        exact (K_X7_readOpenings_71 h)
theorem K_X7_readOpenings_L2 {v0 : Int32} {x1 : Int32} {s : mG} (h : KV 0 2 v0 s) : pk (F_X7_readOpenings_L2 x1 s) (fun τ => KV 0 2 v0 τ.2) := by
  unfold F_X7_readOpenings_L2
  refine pk_whl (fun v => KV 0 2 v0 v.2) h (fun v hv => ?_)
  obtain ⟨y0, y1⟩ := v
  exact K_X7_readOpenings_B2 hv
theorem K_X7_readOpenings {v0 : Int32} {s : mG} (h : KV 0 2 v0 s) : pk (F_X7_readOpenings s) (fun τ => KV 0 2 v0 τ.2) := by
  unfold F_X7_readOpenings
  exact (K_X7_readOpenings_L2 h)
theorem K_X7_closeNots_B2 {v0 : Int32} {x1 : Int32} {s : mG} (h : KV 0 2 v0 s) : pk (F_X7_closeNots_B2 x1 s) (se (fun τ => KV 0 2 v0 τ.2) (fun τ => KV 0 2 v0 τ)) := by
  unfold F_X7_closeNots_B2
  refine pk_ite ?_ ?_
  · exact pk_some h
  · refine pk_b1 pk_top (fun _ _ => ?_)
    refine pk_ite ?_ ?_
    · refine pk_b1 (K_X10_push h) (fun s_1 (h_2 : KV 0 2 v0 s_1) => ?_)
      extract_lets +onlyGivenNames s_3
      have h_4 : KV 0 2 v0 s_3 := KV_mu h_2 (Or.inl (by decide))
      clear_value s_3
      extract_lets +onlyGivenNames s_5
      have h_6 : KV 0 2 v0 s_5 := KV_mu h_4 (Or.inl (by decide))
      clear_value s_5
      exact pk_some h_6
    · exact pk_some h
theorem K_X7_closeNots_L2 {v0 : Int32} {x1 : Int32} {s : mG} (h : KV 0 2 v0 s) : pk (F_X7_closeNots_L2 x1 s) (fun τ => KV 0 2 v0 τ) := by
  unfold F_X7_closeNots_L2
  refine pk_whl (fun v => KV 0 2 v0 v.2) h (fun v hv => ?_)
  obtain ⟨y0, y1⟩ := v
  exact K_X7_closeNots_B2 hv
theorem K_X7_closeNots {v0 : Int32} {s : mG} (h : KV 0 2 v0 s) : pk (F_X7_closeNots s) (fun τ => KV 0 2 v0 τ) := by
  unfold F_X7_closeNots
  exact (K_X7_closeNots_L2 h)
theorem K_X7_joinWhatWaits_50 {v0 : Int32} {x1 : Int32} {x2 : Int32} {y1 : Int32} {s : mG} (h : KV 0 2 v0 s) : pk (F_X7_joinWhatWaits_50 x1 x2 y1 s) (se (fun τ => KV 0 2 v0 τ.2.2) (fun τ => KV 0 2 v0 τ)) := by
  unfold F_X7_joinWhatWaits_50
  refine pk_b1 (K_X10_push h) (fun s_1 (h_2 : KV 0 2 v0 s_1) => ?_)
  extract_lets +onlyGivenNames s_3
  have h_4 : KV 0 2 v0 s_3 := KV_mu h_2 (Or.inl (by decide))
  clear_value s_3
  exact pk_some h_4
theorem K_X7_joinWhatWaits_32 {v0 : Int32} {x1 : Int32} {x2 : Int32} {x3 : Int32} {s : mG} (h : KV 0 2 v0 s) : pk (F_X7_joinWhatWaits_32 x1 x2 x3 s) (se (fun τ => KV 0 2 v0 τ.2.2) (fun τ => KV 0 2 v0 τ)) := by
  unfold F_X7_joinWhatWaits_32
  refine pk_ite ?_ ?_
  · exact (K_X7_joinWhatWaits_50 h)
  · exact (K_X7_joinWhatWaits_50 h)
theorem K_X7_joinWhatWaits_B2 {v0 : Int32} {x1 : Int32} {x2 : Int32} {s : mG} (h : KV 0 2 v0 s) : pk (F_X7_joinWhatWaits_B2 x1 x2 s) (se (fun τ => KV 0 2 v0 τ.2.2) (fun τ => KV 0 2 v0 τ)) := by
  unfold F_X7_joinWhatWaits_B2
  refine pk_ite ?_ ?_
  · exact pk_some h
  · refine pk_b1 pk_top (fun _ _ => ?_)
    refine pk_ite ?_ ?_
    · exact (K_X7_joinWhatWaits_32 h)
    · refine pk_ite ?_ ?_
      · refine pk_ite ?_ ?_
        · exact (K_X7_joinWhatWaits_32 h)
        · exact pk_some h
      · exact pk_some h
theorem K_X7_joinWhatWaits_L2 {v0 : Int32} {x1 : Int32} {x2 : Int32} {s : mG} (h : KV 0 2 v0 s) : pk (F_X7_joinWhatWaits_L2 x1 x2 s) (fun τ => KV 0 2 v0 τ) := by
  unfold F_X7_joinWhatWaits_L2
  refine pk_whl (fun v => KV 0 2 v0 v.2.2) h (fun v hv => ?_)
  obtain ⟨y0, y1, y2⟩ := v
  exact K_X7_joinWhatWaits_B2 hv
theorem K_X7_joinWhatWaits {v0 : Int32} {a1 : Int32} {s : mG} (h : KV 0 2 v0 s) : pk (F_X7_joinWhatWaits a1 s) (fun τ => KV 0 2 v0 τ) := by
  unfold F_X7_joinWhatWaits
  exact (K_X7_joinWhatWaits_L2 h)
theorem K_X7_readClosings_B6 {v0 : Int32} {x1 : Int32} {s : mG} (h : KV 0 2 v0 s) : pk (F_X7_readClosings_B6 x1 s) (se (fun τ => KV 0 2 v0 τ.2) (fun τ => KV 0 2 v0 τ)) := by
  unfold F_X7_readClosings_B6
  refine pk_ite ?_ ?_
  · exact pk_some h
  · refine pk_ite ?_ ?_
    · refine pk_ite ?_ ?_
      · exact pk_some h
      · refine pk_b1 (K_X7_joinWhatWaits h) (fun s_1 (h_2 : KV 0 2 v0 s_1) => ?_)
        extract_lets +onlyGivenNames s_3
        have h_4 : KV 0 2 v0 s_3 := KV_mu h_2 (Or.inl (by decide))
        clear_value s_3
        extract_lets +onlyGivenNames s_5
        have h_6 : KV 0 2 v0 s_5 := KV_mu h_4 (Or.inl (by decide))
        clear_value s_5
        refine pk_b1 (K_X7_stepOn h_6) (fun s_7 (h_8 : KV 0 2 v0 s_7) => ?_)
        refine pk_b1 (K_X7_closeNots h_8) (fun s_9 (h_10 : KV 0 2 v0 s_9) => ?_)
        exact pk_some h_10
    · exact pk_some h
theorem K_X7_readClosings_L6 {v0 : Int32} {x1 : Int32} {s : mG} (h : KV 0 2 v0 s) : pk (F_X7_readClosings_L6 x1 s) (fun τ => KV 0 2 v0 τ) := by
  unfold F_X7_readClosings_L6
  refine pk_whl (fun v => KV 0 2 v0 v.2) h (fun v hv => ?_)
  obtain ⟨y0, y1⟩ := v
  exact K_X7_readClosings_B6 hv
theorem K_X7_readClosings {v0 : Int32} {s : mG} (h : KV 0 2 v0 s) : pk (F_X7_readClosings s) (fun τ => KV 0 2 v0 τ) := by
  unfold F_X7_readClosings
  refine pk_b1 (K_X7_closeNots h) (fun s_1 (h_2 : KV 0 2 v0 s_1) => ?_)
  exact (K_X7_readClosings_L6 h_2)
theorem K_X7_readCondition_33 {v0 : Int32} {s : mG} (h : KV 0 2 v0 s) : pk (F_X7_readCondition_33 s) (fun τ => KV 0 2 v0 τ.2) := by
  unfold F_X7_readCondition_33
  exact pk_some h
theorem K_X7_readCondition_140 {v0 : Int32} {x1 : Int32} {s : mG} (h : KV 0 2 v0 s) : pk (F_X7_readCondition_140 x1 s) (se (fun τ => KV 0 2 v0 τ.2) (fun τ => KV 0 2 v0 τ.2)) := by
  unfold F_X7_readCondition_140
  refine pk_b1 (K_X7_hold h) (fun s_1 (h_2 : KV 0 2 v0 s_1) => ?_)
  refine pk_b1 (K_X7_stepOn h_2) (fun s_3 (h_4 : KV 0 2 v0 s_3) => ?_)
  exact pk_some h_4
theorem K_X7_readCondition_134 {v0 : Int32} {s : mG} (h : KV 0 2 v0 s) : pk (F_X7_readCondition_134 s) (fun τ => KV 0 2 v0 τ.2) := by
  unfold F_X7_readCondition_134
  exact pk_some h
theorem K_X7_readCondition_96 {v0 : Int32} {x1 : Int32} {y1 : Int32} {s : mG} (h : KV 0 2 v0 s) : pk (F_X7_readCondition_96 x1 y1 s) (se (fun τ => KV 0 2 v0 τ.2) (fun τ => KV 0 2 v0 τ.2)) := by
  unfold F_X7_readCondition_96
  refine pk_b1 (K_X7_joinWhatWaits h) (fun s_1 (h_2 : KV 0 2 v0 s_1) => ?_)
  refine pk_ite ?_ ?_
  · exact (K_X7_readCondition_140 h_2)
  · refine pk_ite ?_ ?_
    · exact (K_X7_readCondition_140 h_2)
    · refine pk_ite ?_ ?_
      · refine pk_b1r ?_
        exact (K_X7_readCondition_134 h_2)
      · refine pk_b2 (K_X7_refuse h_2) (fun _ s_3 (h_4 : KV 0 2 v0 s_3) => ?_)
        refine pk_ite ?_ ?_
        · exact pk_some h_4
        · refine pk_b1r ?_
          exact (K_X7_readCondition_134 h_4)
theorem K_X7_readCondition_B12 {v0 : Int32} {x1 : Int32} {s : mG} (h : KV 0 2 v0 s) : pk (F_X7_readCondition_B12 x1 s) (se (fun τ => KV 0 2 v0 τ.2) (fun τ => KV 0 2 v0 τ.2)) := by
  unfold F_X7_readCondition_B12
  refine pk_ite ?_ ?_
  · exact pk_some h
  · refine pk_b2 (K_X7_readOpenings h) (fun _ s_1 (h_2 : KV 0 2 v0 s_1) => ?_)
    refine pk_ite ?_ ?_
    · refine pk_b1r ?_
      exact (K_X7_readCondition_33 h_2)
    · refine pk_b2 (K_X7_readSum h_2) (fun _ s_3 (h_4 : KV 0 2 v0 s_3) => ?_)
      refine pk_ite ?_ ?_
      · refine pk_b1r ?_
        exact (K_X7_readCondition_33 h_4)
      · refine pk_b1 pk_top (fun _ _ => ?_)
        refine pk_ite ?_ ?_
        · refine pk_b2 (K_X7_refuse h_4) (fun _ s_5 (h_6 : KV 0 2 v0 s_5) => ?_)
          refine pk_pp ?_
          exact pk_some h_6
        · refine pk_b1 (K_X7_stepOn h_4) (fun s_7 (h_8 : KV 0 2 v0 s_7) => ?_)
          refine pk_b2 (K_X7_readSum h_8) (fun _ s_9 (h_10 : KV 0 2 v0 s_9) => ?_)
          refine pk_ite ?_ ?_
          · exact pk_some h_10
          · refine pk_b1 (K_X10_push h_10) (fun s_11 (h_12 : KV 0 2 v0 s_11) => ?_)
            refine pk_b1 (K_X7_readClosings h_12) (fun s_13 (h_14 : KV 0 2 v0 s_13) => ?_)
            refine pk_ite ?_ ?_
            · exact (K_X7_readCondition_96 h_14)
            · exact (K_X7_readCondition_96 h_14)
theorem K_X7_readCondition_L12 {v0 : Int32} {x1 : Int32} {s : mG} (h : KV 0 2 v0 s) : pk (F_X7_readCondition_L12 x1 s) (fun τ => KV 0 2 v0 τ.2) := by
  unfold F_X7_readCondition_L12
  refine pk_whl (fun v => KV 0 2 v0 v.2) h (fun v hv => ?_)
  obtain ⟨y0, y1⟩ := v
  exact K_X7_readCondition_B12 hv
theorem K_X7_readCondition {v0 : Int32} {s : mG} (h : KV 0 2 v0 s) : pk (F_X7_readCondition s) (fun τ => KV 0 2 v0 τ.2) := by
  unfold F_X7_readCondition
  extract_lets +onlyGivenNames s_1
  have h_2 : KV 0 2 v0 s_1 := KV_mu h (Or.inl (by decide))
  clear_value s_1
  extract_lets +onlyGivenNames s_3
  have h_4 : KV 0 2 v0 s_3 := KV_mu h_2 (Or.inl (by decide))
  clear_value s_3
  exact (K_X7_readCondition_L12 h_4)
theorem K_X7_readLaw_126 {v0 : Int32} {x1 : Int32} {s : mG} (h : KV 0 2 v0 s) : pk (F_X7_readLaw_126 x1 s) (fun τ => KV 0 2 v0 τ.2) := by
  unfold F_X7_readLaw_126
  refine pk_b1 (K_X10_put h) (fun s_1 (h_2 : KV 0 2 v0 s_1) => ?_)
  refine pk_b2 (K_X7_pass h_2) (fun _ s_3 (h_4 : KV 0 2 v0 s_3) => ?_)
  refine pk_pp ?_
  exact pk_some h_4
theorem K_X7_readLaw {v0 : Int32} {s : mG} (h : KV 0 2 v0 s) : pk (F_X7_readLaw s) (fun τ => KV 0 2 v0 τ.2) := by
  unfold F_X7_readLaw
  refine pk_b1 pk_top (fun _ _ => ?_)
  refine pk_ite ?_ ?_
  · refine pk_b2 (K_X7_refuse h) (fun _ s_1 (h_2 : KV 0 2 v0 s_1) => ?_)
    refine pk_pp ?_
    exact pk_some h_2
  · refine pk_b2 (K_X10_add h) (fun _ s_3 (h_4 : KV 0 2 v0 s_3) => ?_)
    refine pk_ite ?_ ?_
    · refine pk_b2 (K_X7_refuse h_4) (fun _ s_5 (h_6 : KV 0 2 v0 s_5) => ?_)
      refine pk_pp ?_
      exact pk_some h_6
    · refine pk_b1 (K_X10_put h_4) (fun s_7 (h_8 : KV 0 2 v0 s_7) => ?_)
      refine pk_b1 (K_X10_put h_8) (fun s_9 (h_10 : KV 0 2 v0 s_9) => ?_)
      refine pk_b1 (K_X7_stepOn h_10) (fun s_11 (h_12 : KV 0 2 v0 s_11) => ?_)
      refine pk_b2 (K_X7_readSum h_12) (fun _ s_13 (h_14 : KV 0 2 v0 s_13) => ?_)
      refine pk_ite ?_ ?_
      · exact pk_some h_14
      · refine pk_b1 (K_X10_put h_14) (fun s_15 (h_16 : KV 0 2 v0 s_15) => ?_)
        refine pk_ite ?_ ?_
        · refine pk_b1 (K_X7_stepOn h_16) (fun s_17 (h_18 : KV 0 2 v0 s_17) => ?_)
          refine pk_b2 (K_X7_readCondition h_18) (fun _ s_19 (h_20 : KV 0 2 v0 s_19) => ?_)
          refine pk_ite ?_ ?_
          · exact pk_some h_20
          · exact (K_X7_readLaw_126 h_20)
        · exact (K_X7_readLaw_126 h_16)
theorem K_X7_readText_19 {v0 : Int32} {s : mG} (h : KV 0 2 v0 s) : pk (F_X7_readText_19 s) (fun τ => KV 0 2 v0 τ.2) := by
  unfold F_X7_readText_19
  exact pk_some h
theorem K_X7_readText_119 {v0 : Int32} {s : mG} (h : KV 0 2 v0 s) : pk (F_X7_readText_119 s) (fun τ => KV 0 2 v0 τ.2) := by
  unfold F_X7_readText_119
  exact pk_some h
theorem K_X7_readText_106 {v0 : Int32} {x1 : Int32} {x2 : Int32} {y0 : Int32} {s : mG} (h : KV 0 2 v0 s) : pk (F_X7_readText_106 x1 x2 y0 s) (se (fun τ => KV 0 2 v0 τ.2.2) (fun τ => KV 0 2 v0 τ.2)) := by
  unfold F_X7_readText_106
  refine pk_ite ?_ ?_
  · exact pk_some h
  · exact pk_some h
theorem K_X7_readText_B64 {v0 : Int32} {x1 : Int32} {x2 : Int32} {s : mG} (h : KV 0 2 v0 s) : pk (F_X7_readText_B64 x1 x2 s) (se (fun τ => KV 0 2 v0 τ.2.2) (fun τ => KV 0 2 v0 τ.2)) := by
  unfold F_X7_readText_B64
  refine pk_ite ?_ ?_
  · refine pk_b1r ?_
    exact (K_X7_readText_119 h)
  · refine pk_ite ?_ ?_
    · refine pk_b1r ?_
      exact (K_X7_readText_119 h)
    · refine pk_ite ?_ ?_
      · refine pk_b2 (K_X7_readLaw h) (fun _ s_1 (h_2 : KV 0 2 v0 s_1) => ?_)
        exact (K_X7_readText_106 h_2)
      · refine pk_ite ?_ ?_
        · refine pk_b2 (K_X7_readSign h) (fun _ s_3 (h_4 : KV 0 2 v0 s_3) => ?_)
          exact (K_X7_readText_106 h_4)
        · refine pk_b2 (K_X7_readShift h) (fun _ s_5 (h_6 : KV 0 2 v0 s_5) => ?_)
          exact (K_X7_readText_106 h_6)
theorem K_X7_readText_L64 {v0 : Int32} {x1 : Int32} {x2 : Int32} {s : mG} (h : KV 0 2 v0 s) : pk (F_X7_readText_L64 x1 x2 s) (fun τ => KV 0 2 v0 τ.2) := by
  unfold F_X7_readText_L64
  refine pk_whl (fun v => KV 0 2 v0 v.2.2) h (fun v hv => ?_)
  obtain ⟨y0, y1, y2⟩ := v
  exact K_X7_readText_B64 hv
theorem K_X7_readText {v0 : Int32} {a1 : Int32} {s : mG} (h : KV 0 2 v0 s) : pk (F_X7_readText a1 s) (fun τ => KV 0 2 v0 τ.2) := by
  unfold F_X7_readText
  extract_lets +onlyGivenNames s_1
  have h_2 : KV 0 2 v0 s_1 := KV_mu h (Or.inl (by decide))
  clear_value s_1
  extract_lets +onlyGivenNames s_3
  have h_4 : KV 0 2 v0 s_3 := KV_mu h_2 (Or.inl (by decide))
  clear_value s_3
  refine pk_ite ?_ ?_
  · exact (K_X7_readText_19 h_4)
  · refine pk_ite ?_ ?_
    · refine pk_b1 (K_X7_splitTape h_4) (fun s_5 (h_6 : KV 0 2 v0 s_5) => ?_)
      refine pk_b1 (K_X10_clear h_6) (fun s_7 (h_8 : KV 0 2 v0 s_7) => ?_)
      refine pk_b1 (K_X10_clear h_8) (fun s_9 (h_10 : KV 0 2 v0 s_9) => ?_)
      refine pk_b1 (K_X10_clear h_10) (fun s_11 (h_12 : KV 0 2 v0 s_11) => ?_)
      refine pk_b1 (K_X10_clear h_12) (fun s_13 (h_14 : KV 0 2 v0 s_13) => ?_)
      extract_lets +onlyGivenNames s_15
      have h_16 : KV 0 2 v0 s_15 := KV_mu h_14 (Or.inl (by decide))
      clear_value s_15
      refine pk_b1 (K_X7_stepOn h_16) (fun s_17 (h_18 : KV 0 2 v0 s_17) => ?_)
      exact (K_X7_readText_L64 h_18)
    · exact (K_X7_readText_19 h_4)
theorem K_X9_roomAt_B51 {v0 : Int32} {x1 : Int32} {x2 : Int32} {s : mG} (h : KV 0 2 v0 s) : pk (F_X9_roomAt_B51 x1 x2 s) (se (fun τ => KV 0 2 v0 τ.2.2) (fun τ => KV 0 2 v0 τ.2)) := by
  unfold F_X9_roomAt_B51
  refine pk_ite ?_ ?_
  · exact pk_some h
  · refine pk_b1 pk_top (fun _ _ => ?_)
    refine pk_ite ?_ ?_
    · exact pk_some h
    · exact pk_some h
theorem K_X9_roomAt_L51 {v0 : Int32} {x1 : Int32} {x2 : Int32} {s : mG} (h : KV 0 2 v0 s) : pk (F_X9_roomAt_L51 x1 x2 s) (fun τ => KV 0 2 v0 τ.2) := by
  unfold F_X9_roomAt_L51
  refine pk_whl (fun v => KV 0 2 v0 v.2.2) h (fun v hv => ?_)
  obtain ⟨y0, y1, y2⟩ := v
  exact K_X9_roomAt_B51 hv
theorem K_X9_roomAt_B2 {v0 : Int32} {x1 : Int32} {x2 : Int32} {s : mG} (h : KV 0 2 v0 s) : pk (F_X9_roomAt_B2 x1 x2 s) (se (fun τ => KV 0 2 v0 τ.2.2) (fun τ => KV 0 2 v0 τ.2)) := by
  unfold F_X9_roomAt_B2
  refine pk_ite ?_ ?_
  · refine pk_b1r ?_
    exact (K_X9_roomAt_L51 h)
  · refine pk_b1 pk_top (fun _ _ => ?_)
    refine pk_b2 (K_X0_sureOf h) (fun _ s_1 (h_2 : KV 0 2 v0 s_1) => ?_)
    refine pk_b1 (K_X11_put (by decide) h_2) (fun s_3 (h_4 : KV 0 2 v0 s_3) => ?_)
    exact pk_some h_4
theorem K_X9_roomAt_L2 {v0 : Int32} {x1 : Int32} {x2 : Int32} {s : mG} (h : KV 0 2 v0 s) : pk (F_X9_roomAt_L2 x1 x2 s) (fun τ => KV 0 2 v0 τ.2) := by
  unfold F_X9_roomAt_L2
  refine pk_whl (fun v => KV 0 2 v0 v.2.2) h (fun v hv => ?_)
  obtain ⟨y0, y1, y2⟩ := v
  exact K_X9_roomAt_B2 hv
theorem K_X9_roomAt {v0 : Int32} {a1 : Int32} {s : mG} (h : KV 0 2 v0 s) : pk (F_X9_roomAt a1 s) (fun τ => KV 0 2 v0 τ.2) := by
  unfold F_X9_roomAt
  exact (K_X9_roomAt_L2 h)
theorem K_X9_searchOn_148 {v0 : Int32} {rec : Int32 → Int32 → Int32 → Int32 → Int64 → mG → Option (mG)} {x1 : Int32} {x2 : Int32} {x3 : Int32} {x4 : Int32} {x5 : Int64} {x7 : Int32} {s : mG} (hrec : ∀ (b0 : Int32) (b1 : Int32) (b2 : Int32) (b3 : Int32) (b4 : Int64) (r : mG), KV 0 2 v0 r → pk (rec b0 b1 b2 b3 b4 r) (fun τ => KV 0 2 v0 τ)) (h : KV 0 2 v0 s) : pk (F_X9_searchOn_148 rec x1 x2 x3 x4 x5 x7 s) (se (fun τ => KV 0 2 v0 τ.2.2.2.2.2.2) (fun τ => KV 0 2 v0 τ)) := by
  unfold F_X9_searchOn_148
  exact pk_some h
theorem K_X9_searchOn_B65 {v0 : Int32} {rec : Int32 → Int32 → Int32 → Int32 → Int64 → mG → Option (mG)} {x1 : Int32} {x2 : Int32} {x3 : Int32} {x4 : Int32} {x5 : Int64} {x7 : Int32} {s : mG} (hrec : ∀ (b0 : Int32) (b1 : Int32) (b2 : Int32) (b3 : Int32) (b4 : Int64) (r : mG), KV 0 2 v0 r → pk (rec b0 b1 b2 b3 b4 r) (fun τ => KV 0 2 v0 τ)) (h : KV 0 2 v0 s) : pk (F_X9_searchOn_B65 rec x1 x2 x3 x4 x5 x7 s) (se (fun τ => KV 0 2 v0 τ.2.2.2.2.2.2) (fun τ => KV 0 2 v0 τ)) := by
  unfold F_X9_searchOn_B65
  refine pk_ite ?_ ?_
  · exact pk_some h
  · refine pk_ite ?_ ?_
    · exact pk_some h
    · extract_lets +onlyGivenNames v_1
      clear_value v_1
      refine pk_ite ?_ ?_
      · refine pk_ite ?_ ?_
        · exact (K_X9_searchOn_148 hrec h)
        · refine pk_b1 (K_X11_put (by decide) h) (fun s_2 (h_3 : KV 0 2 v0 s_2) => ?_)
          refine pk_b1 pk_top (fun _ _ => ?_)
          refine pk_b1 (hrec _ _ _ _ _ _ h_3) (fun s_4 (h_5 : KV 0 2 v0 s_4) => ?_)
          exact (K_X9_searchOn_148 hrec h_5)
      · exact (K_X9_searchOn_148 hrec h)
theorem K_X9_searchOn_L65 {v0 : Int32} {rec : Int32 → Int32 → Int32 → Int32 → Int64 → mG → Option (mG)} {x1 : Int32} {x2 : Int32} {x3 : Int32} {x4 : Int32} {x5 : Int64} {x7 : Int32} {s : mG} (hrec : ∀ (b0 : Int32) (b1 : Int32) (b2 : Int32) (b3 : Int32) (b4 : Int64) (r : mG), KV 0 2 v0 r → pk (rec b0 b1 b2 b3 b4 r) (fun τ => KV 0 2 v0 τ)) (h : KV 0 2 v0 s) : pk (F_X9_searchOn_L65 rec x1 x2 x3 x4 x5 x7 s) (fun τ => KV 0 2 v0 τ) := by
  unfold F_X9_searchOn_L65
  refine pk_whl (fun v => KV 0 2 v0 v.2.2.2.2.2.2) h (fun v hv => ?_)
  obtain ⟨y0, y1, y2, y3, y4, y5, y6⟩ := v
  exact K_X9_searchOn_B65 hrec hv
theorem K_X9_searchOn_62 {v0 : Int32} {rec : Int32 → Int32 → Int32 → Int32 → Int64 → mG → Option (mG)} {x1 : Int32} {x2 : Int32} {x3 : Int32} {x4 : Int32} {x5 : Int64} {s : mG} (hrec : ∀ (b0 : Int32) (b1 : Int32) (b2 : Int32) (b3 : Int32) (b4 : Int64) (r : mG), KV 0 2 v0 r → pk (rec b0 b1 b2 b3 b4 r) (fun τ => KV 0 2 v0 τ)) (h : KV 0 2 v0 s) : pk (F_X9_searchOn_62 rec x1 x2 x3 x4 x5 s) (fun τ => KV 0 2 v0 τ) := by
  unfold F_X9_searchOn_62
  exact (K_X9_searchOn_L65 hrec h)
theorem K_X9_searchOn_B25 {v0 : Int32} {rec : Int32 → Int32 → Int32 → Int32 → Int64 → mG → Option (mG)} {x1 : Int32} {x2 : Int32} {x3 : Int32} {x4 : Int32} {x5 : Int64} {x7 : Int32} {s : mG} (hrec : ∀ (b0 : Int32) (b1 : Int32) (b2 : Int32) (b3 : Int32) (b4 : Int64) (r : mG), KV 0 2 v0 r → pk (rec b0 b1 b2 b3 b4 r) (fun τ => KV 0 2 v0 τ)) (h : KV 0 2 v0 s) : pk (F_X9_searchOn_B25 rec x1 x2 x3 x4 x5 x7 s) (se (fun τ => KV 0 2 v0 τ.2.2.2.2.2.2) (fun τ => KV 0 2 v0 τ)) := by
  unfold F_X9_searchOn_B25
  refine pk_ite ?_ ?_
  · refine pk_b1r ?_
    exact (K_X9_searchOn_62 hrec h)
  · refine pk_ite ?_ ?_
    · refine pk_b1r ?_
      exact (K_X9_searchOn_62 hrec h)
    · refine pk_b1 pk_top (fun _ _ => ?_)
      refine pk_b1 (K_X11_put (by decide) h) (fun s_1 (h_2 : KV 0 2 v0 s_1) => ?_)
      exact pk_some h_2
theorem K_X9_searchOn_L25 {v0 : Int32} {rec : Int32 → Int32 → Int32 → Int32 → Int64 → mG → Option (mG)} {x1 : Int32} {x2 : Int32} {x3 : Int32} {x4 : Int32} {x5 : Int64} {x7 : Int32} {s : mG} (hrec : ∀ (b0 : Int32) (b1 : Int32) (b2 : Int32) (b3 : Int32) (b4 : Int64) (r : mG), KV 0 2 v0 r → pk (rec b0 b1 b2 b3 b4 r) (fun τ => KV 0 2 v0 τ)) (h : KV 0 2 v0 s) : pk (F_X9_searchOn_L25 rec x1 x2 x3 x4 x5 x7 s) (fun τ => KV 0 2 v0 τ) := by
  unfold F_X9_searchOn_L25
  refine pk_whl (fun v => KV 0 2 v0 v.2.2.2.2.2.2) h (fun v hv => ?_)
  obtain ⟨y0, y1, y2, y3, y4, y5, y6⟩ := v
  exact K_X9_searchOn_B25 hrec hv
theorem K_X9_searchOn {v0 : Int32} {rec : Int32 → Int32 → Int32 → Int32 → Int64 → mG → Option (mG)} {a1 : Int32} {a2 : Int32} {a3 : Int32} {a4 : Int32} {a5 : Int64} {s : mG} (hrec : ∀ (b0 : Int32) (b1 : Int32) (b2 : Int32) (b3 : Int32) (b4 : Int64) (r : mG), KV 0 2 v0 r → pk (rec b0 b1 b2 b3 b4 r) (fun τ => KV 0 2 v0 τ)) (h : KV 0 2 v0 s) : pk (F_X9_searchOn rec a1 a2 a3 a4 a5 s) (fun τ => KV 0 2 v0 τ) := by
  unfold F_X9_searchOn
  refine pk_ite ?_ ?_
  · exact (K_X9_searchOn_62 hrec h)
  · extract_lets +onlyGivenNames s_1
    have h_2 : KV 0 2 v0 s_1 := h
    clear_value s_1
    extract_lets +onlyGivenNames s_3
    have h_4 : KV 0 2 v0 s_3 := KV_mu h_2 (Or.inl (by decide))
    clear_value s_3
    exact (K_X9_searchOn_L25 hrec h_4)
theorem K_Q_X9_searchOn {v0 : Int32} : ∀ (n : Nat) (a0 : Int32) (a1 : Int32) (a2 : Int32) (a3 : Int32) (a4 : Int64) (s : mG), KV 0 2 v0 s → pk (Q_X9_searchOn n a0 a1 a2 a3 a4 s) (fun τ => KV 0 2 v0 τ)
  | 0, _, _, _, _, _, _, _ => pk_none
  | n + 1, _, _, _, _, _, _, h => K_X9_searchOn (fun a0 a1 a2 a3 a4 s h => K_Q_X9_searchOn n a0 a1 a2 a3 a4 s h) h
theorem K_R_X9_searchOn {v0 : Int32} {a0 : Int32} {a1 : Int32} {a2 : Int32} {a3 : Int32} {a4 : Int64} {s : mG} (h : KV 0 2 v0 s) : pk (R_X9_searchOn a0 a1 a2 a3 a4 s) (fun τ => KV 0 2 v0 τ) := K_Q_X9_searchOn 5 a0 a1 a2 a3 a4 s h
theorem K_X9_searchFloors_B26 {v0 : Int32} {x1 : Int32} {x2 : Int32} {s : mG} (h : KV 0 2 v0 s) : pk (F_X9_searchFloors_B26 x1 x2 s) (se (fun τ => KV 0 2 v0 τ.2.2) (fun τ => KV 0 2 v0 τ)) := by
  unfold F_X9_searchFloors_B26
  refine pk_ite ?_ ?_
  · extract_lets +onlyGivenNames s_1
    have h_2 : KV 0 2 v0 s_1 := h
    clear_value s_1
    extract_lets +onlyGivenNames s_3
    have h_4 : KV 0 2 v0 s_3 := KV_mu h_2 (Or.inl (by decide))
    clear_value s_3
    refine pk_b1 (K_X9_searchOn (fun _ _ _ _ _ _ h => K_R_X9_searchOn h) h_4) (fun s_5 (h_6 : KV 0 2 v0 s_5) => ?_)
    exact pk_some h_6
  · refine pk_b1 pk_top (fun _ _ => ?_)
    refine pk_b1 pk_top (fun _ _ => ?_)
    refine pk_b2 (K_X0_sureOf h) (fun _ s_7 (h_8 : KV 0 2 v0 s_7) => ?_)
    refine pk_b1 (K_X11_put (by decide) h_8) (fun s_9 (h_10 : KV 0 2 v0 s_9) => ?_)
    exact pk_some h_10
theorem K_X9_searchFloors_L26 {v0 : Int32} {x1 : Int32} {x2 : Int32} {s : mG} (h : KV 0 2 v0 s) : pk (F_X9_searchFloors_L26 x1 x2 s) (fun τ => KV 0 2 v0 τ) := by
  unfold F_X9_searchFloors_L26
  refine pk_whl (fun v => KV 0 2 v0 v.2.2) h (fun v hv => ?_)
  obtain ⟨y0, y1, y2⟩ := v
  exact K_X9_searchFloors_B26 hv
theorem K_X9_searchFloors_B2 {v0 : Int32} {x1 : Int32} {x2 : Int32} {s : mG} (h : KV 0 2 v0 s) : pk (F_X9_searchFloors_B2 x1 x2 s) (se (fun τ => KV 0 2 v0 τ.2.2) (fun τ => KV 0 2 v0 τ)) := by
  unfold F_X9_searchFloors_B2
  refine pk_ite ?_ ?_
  · refine pk_b1r ?_
    exact (K_X9_searchFloors_L26 h)
  · refine pk_nn ?_
    extract_lets +onlyGivenNames s_1
    have h_2 : KV 0 2 v0 s_1 := KV_mu h (Or.inl (by decide))
    clear_value s_1
    exact pk_some h_2
theorem K_X9_searchFloors_L2 {v0 : Int32} {x1 : Int32} {x2 : Int32} {s : mG} (h : KV 0 2 v0 s) : pk (F_X9_searchFloors_L2 x1 x2 s) (fun τ => KV 0 2 v0 τ) := by
  unfold F_X9_searchFloors_L2
  refine pk_whl (fun v => KV 0 2 v0 v.2.2) h (fun v hv => ?_)
  obtain ⟨y0, y1, y2⟩ := v
  exact K_X9_searchFloors_B2 hv
theorem K_X9_searchFloors {v0 : Int32} {a1 : Int32} {s : mG} (h : KV 0 2 v0 s) : pk (F_X9_searchFloors a1 s) (fun τ => KV 0 2 v0 τ) := by
  unfold F_X9_searchFloors
  exact (K_X9_searchFloors_L2 h)
theorem K_X11_state {v0 : Int32} {a1 : Int32} {s : mG} (h : KV 0 2 v0 s) : pk (F_X11_state a1 s) (fun τ => KV 0 2 v0 τ.2) := by
  unfold F_X11_state
  extract_lets +onlyGivenNames s_1
  have h_2 : KV 0 2 v0 s_1 := KV_mu h (Or.inl (by decide))
  clear_value s_1
  refine pk_b1 (K_X5_forget h_2) (fun s_3 (h_4 : KV 0 2 v0 s_3) => ?_)
  exact pk_some h_4
theorem K_X11_guest_32 {v0 : Int32} {s : mG} (h : KV 0 2 v0 s) : pk (F_X11_guest_32 s) (fun τ => KV 0 2 v0 τ.2) := by
  unfold F_X11_guest_32
  exact pk_some h
theorem K_X11_guest {v0 : Int32} {a1 : Int32} {a2 : Int32} {s : mG} (h : KV 0 2 v0 s) : pk (F_X11_guest a1 a2 s) (fun τ => KV 0 2 v0 τ.2) := by
  unfold F_X11_guest
  refine pk_b1 pk_top (fun _ _ => ?_)
  refine pk_ite ?_ ?_
  · exact (K_X11_guest_32 h)
  · refine pk_b1 pk_top (fun _ _ => ?_)
    refine pk_ite ?_ ?_
    · exact (K_X11_guest_32 h)
    · refine pk_b1 pk_top (fun _ _ => ?_)
      refine pk_ite ?_ ?_
      · refine pk_b1 (K_X5_forget h) (fun s_1 (h_2 : KV 0 2 v0 s_1) => ?_)
        refine pk_b2 (K_X2_addGuest h_2) (fun _ s_3 (h_4 : KV 0 2 v0 s_3) => ?_)
        exact pk_some h_4
      · exact (K_X11_guest_32 h)
theorem K_X11_set_56 {v0 : Int32} {s : mG} (h : KV 0 2 v0 s) : pk (F_X11_set_56 s) (fun τ => KV 0 2 v0 τ.2) := by
  unfold F_X11_set_56
  refine pk_b1 (K_X5_forget h) (fun s_1 (h_2 : KV 0 2 v0 s_1) => ?_)
  exact pk_some h_2
theorem K_X11_set {v0 : Int32} {a1 : Int32} {a2 : Int32} {a3 : Int32} {s : mG} (h : KV 0 2 v0 s) : pk (F_X11_set a1 a2 a3 s) (fun τ => KV 0 2 v0 τ.2) := by
  unfold F_X11_set
  refine pk_b1 pk_top (fun _ _ => ?_)
  refine pk_ite ?_ ?_
  · exact pk_some h
  · refine pk_ite ?_ ?_
    · extract_lets +onlyGivenNames s_1
      have h_2 : KV 0 2 v0 s_1 := KV_mu h (Or.inl (by decide))
      clear_value s_1
      exact (K_X11_set_56 h_2)
    · refine pk_ite ?_ ?_
      · extract_lets +onlyGivenNames s_3
        have h_4 : KV 0 2 v0 s_3 := KV_mu h (Or.inl (by decide))
        clear_value s_3
        exact (K_X11_set_56 h_4)
      · refine pk_b1 (K_X10_put h) (fun s_5 (h_6 : KV 0 2 v0 s_5) => ?_)
        exact (K_X11_set_56 h_6)
theorem K_X11_hang_44 {v0 : Int32} {s : mG} (h : KV 0 2 v0 s) : pk (F_X11_hang_44 s) (fun τ => KV 0 2 v0 τ.2) := by
  unfold F_X11_hang_44
  exact pk_some h
theorem K_X11_hang {v0 : Int32} {a1 : Int32} {a2 : Int32} {s : mG} (h : KV 0 2 v0 s) : pk (F_X11_hang a1 a2 s) (fun τ => KV 0 2 v0 τ.2) := by
  unfold F_X11_hang
  refine pk_b1 pk_top (fun _ _ => ?_)
  refine pk_ite ?_ ?_
  · exact (K_X11_hang_44 h)
  · refine pk_b1 pk_top (fun _ _ => ?_)
    refine pk_ite ?_ ?_
    · exact (K_X11_hang_44 h)
    · refine pk_b1 pk_top (fun _ _ => ?_)
      refine pk_ite ?_ ?_
      · exact (K_X11_hang_44 h)
      · refine pk_b1 pk_top (fun _ _ => ?_)
        refine pk_ite ?_ ?_
        · refine pk_b1 (K_X5_keep h) (fun s_1 (h_2 : KV 0 2 v0 s_1) => ?_)
          refine pk_b1 (K_X10_put h_2) (fun s_3 (h_4 : KV 0 2 v0 s_3) => ?_)
          refine pk_b1 (K_X2_write h_4) (fun s_5 (h_6 : KV 0 2 v0 s_5) => ?_)
          exact pk_some h_6
        · exact (K_X11_hang_44 h)
theorem K_X11_looks_31 {v0 : Int32} {s : mG} (h : KV 0 2 v0 s) : pk (F_X11_looks_31 s) (fun τ => KV 0 2 v0 τ.2) := by
  unfold F_X11_looks_31
  exact pk_some h
theorem K_X11_looks {v0 : Int32} {a1 : Int32} {a2 : Int32} {a3 : Int32} {s : mG} (h : KV 0 2 v0 s) : pk (F_X11_looks a1 a2 a3 s) (fun τ => KV 0 2 v0 τ.2) := by
  unfold F_X11_looks
  refine pk_b1 pk_top (fun _ _ => ?_)
  refine pk_ite ?_ ?_
  · exact (K_X11_looks_31 h)
  · refine pk_b1 pk_top (fun _ _ => ?_)
    refine pk_ite ?_ ?_
    · exact (K_X11_looks_31 h)
    · refine pk_b1 pk_top (fun _ _ => ?_)
      refine pk_ite ?_ ?_
      · exact (K_X11_looks_31 h)
      · refine pk_b1 pk_top (fun _ _ => ?_)
        refine pk_ite ?_ ?_
        · exact pk_some h
        · refine pk_b1 (K_X5_keep h) (fun s_1 (h_2 : KV 0 2 v0 s_1) => ?_)
          refine pk_b1 (K_X10_put h_2) (fun s_3 (h_4 : KV 0 2 v0 s_3) => ?_)
          exact pk_some h_4
theorem K_X11_hours_25 {v0 : Int32} {s : mG} (h : KV 0 2 v0 s) : pk (F_X11_hours_25 s) (fun τ => KV 0 2 v0 τ.2) := by
  unfold F_X11_hours_25
  exact pk_some h
theorem K_X11_hours_B31 {v0 : Int32} {x1 : Int32} {x2 : Int32} {x3 : Int32} {s : mG} (h : KV 0 2 v0 s) : pk (F_X11_hours_B31 x1 x2 x3 s) (se (fun τ => KV 0 2 v0 τ.2.2.2) (fun τ => KV 0 2 v0 τ.2)) := by
  unfold F_X11_hours_B31
  refine pk_ite ?_ ?_
  · exact pk_some h
  · refine pk_b1 (K_X5_keep h) (fun s_1 (h_2 : KV 0 2 v0 s_1) => ?_)
    refine pk_b2 (K_X6_passHour h_2) (fun _ s_3 (h_4 : KV 0 2 v0 s_3) => ?_)
    exact pk_some h_4
theorem K_X11_hours_L31 {v0 : Int32} {x1 : Int32} {x2 : Int32} {x3 : Int32} {s : mG} (h : KV 0 2 v0 s) : pk (F_X11_hours_L31 x1 x2 x3 s) (fun τ => KV 0 2 v0 τ.2) := by
  unfold F_X11_hours_L31
  refine pk_whl (fun v => KV 0 2 v0 v.2.2.2) h (fun v hv => ?_)
  obtain ⟨y0, y1, y2, y3⟩ := v
  exact K_X11_hours_B31 hv
theorem K_X11_hours {v0 : Int32} {a1 : Int32} {s : mG} (h : KV 0 2 v0 s) : pk (F_X11_hours a1 s) (fun τ => KV 0 2 v0 τ.2) := by
  unfold F_X11_hours
  refine pk_b1 pk_top (fun _ _ => ?_)
  refine pk_ite ?_ ?_
  · exact (K_X11_hours_25 h)
  · refine pk_ite ?_ ?_
    · exact (K_X11_hours_L31 h)
    · exact (K_X11_hours_25 h)
theorem K_X11_feed {v0 : Int32} {a1 : Int32} {a2 : Int32} {a3 : Int32} {a4 : Int32} {a5 : Int32} {s : mG} (h : KV 0 2 v0 s) : pk (F_X11_feed a1 a2 a3 a4 a5 s) (fun τ => KV 0 2 v0 τ.2) := by
  unfold F_X11_feed
  refine pk_b1 pk_top (fun _ _ => ?_)
  refine pk_ite ?_ ?_
  · exact pk_some h
  · refine pk_b1 (K_X7_takeFour h) (fun s_1 (h_2 : KV 0 2 v0 s_1) => ?_)
    refine pk_b1 (K_X7_takeFour h_2) (fun s_3 (h_4 : KV 0 2 v0 s_3) => ?_)
    refine pk_b1 (K_X7_takeFour h_4) (fun s_5 (h_6 : KV 0 2 v0 s_5) => ?_)
    refine pk_b1 (K_X7_takeFour h_6) (fun s_7 (h_8 : KV 0 2 v0 s_7) => ?_)
    refine pk_b1 (K_X7_takeFour h_8) (fun s_9 (h_10 : KV 0 2 v0 s_9) => ?_)
    exact pk_some h_10
theorem K_X11_end {v0 : Int32} {a1 : Int32} {s : mG} (h : KV 0 2 v0 s) : pk (F_X11_end a1 s) (fun τ => KV 0 2 v0 τ.2) := by
  unfold F_X11_end
  refine pk_b1 pk_top (fun _ _ => ?_)
  refine pk_ite ?_ ?_
  · exact pk_some h
  · extract_lets +onlyGivenNames s_1
    have h_2 : KV 0 2 v0 s_1 := KV_mu h (Or.inl (by decide))
    clear_value s_1
    exact pk_some h_2
theorem K_X11_text {v0 : Int32} {a1 : Int32} {s : mG} (h : KV 0 2 v0 s) : pk (F_X11_text a1 s) (fun τ => KV 0 2 v0 τ.2) := by
  unfold F_X11_text
  refine pk_b2 (K_X7_readText h) (fun _ s_1 (h_2 : KV 0 2 v0 s_1) => ?_)
  extract_lets +onlyGivenNames s_3
  have h_4 : KV 0 2 v0 s_3 := KV_mu h_2 (Or.inl (by decide))
  clear_value s_3
  refine pk_ite ?_ ?_
  · exact pk_some h_4
  · refine pk_ite ?_ ?_
    · refine pk_b1 (K_X10_copyFrom h_4) (fun s_5 (h_6 : KV 0 2 v0 s_5) => ?_)
      refine pk_b1 (K_X10_copyFrom h_6) (fun s_7 (h_8 : KV 0 2 v0 s_7) => ?_)
      exact pk_some h_8
    · refine pk_b1 (K_X5_forget h_4) (fun s_9 (h_10 : KV 0 2 v0 s_9) => ?_)
      refine pk_ite ?_ ?_
      · refine pk_b1 (K_X10_copyFrom h_10) (fun s_11 (h_12 : KV 0 2 v0 s_11) => ?_)
        refine pk_b1 (K_X2_forgetSeen h_12) (fun s_13 (h_14 : KV 0 2 v0 s_13) => ?_)
        exact pk_some h_14
      · refine pk_b1 (K_X10_copyFrom h_10) (fun s_15 (h_16 : KV 0 2 v0 s_15) => ?_)
        exact pk_some h_16
theorem K_X11_caller_63 {v0 : Int32} {s : mG} (h : KV 0 2 v0 s) : pk (F_X11_caller_63 s) (fun τ => KV 0 2 v0 τ.2) := by
  unfold F_X11_caller_63
  exact pk_some h
theorem K_X11_caller {v0 : Int32} {a1 : Int32} {a2 : Int32} {a3 : Int32} {s : mG} (h : KV 0 2 v0 s) : pk (F_X11_caller a1 a2 a3 s) (fun τ => KV 0 2 v0 τ.2) := by
  unfold F_X11_caller
  refine pk_ite ?_ ?_
  · refine pk_b1 (K_X10_clear h) (fun s_1 (h_2 : KV 0 2 v0 s_1) => ?_)
    exact pk_some h_2
  · refine pk_b1 pk_top (fun _ _ => ?_)
    refine pk_ite ?_ ?_
    · exact (K_X11_caller_63 h)
    · refine pk_b1 pk_top (fun _ _ => ?_)
      refine pk_ite ?_ ?_
      · exact (K_X11_caller_63 h)
      · refine pk_b1 pk_top (fun _ _ => ?_)
        refine pk_ite ?_ ?_
        · exact (K_X11_caller_63 h)
        · refine pk_b1 pk_top (fun _ _ => ?_)
          refine pk_ite ?_ ?_
          · refine pk_b2 (K_X10_add h) (fun _ s_3 (h_4 : KV 0 2 v0 s_3) => ?_)
            refine pk_b1 (K_X10_put h_4) (fun s_5 (h_6 : KV 0 2 v0 s_5) => ?_)
            refine pk_b1 (K_X10_put h_6) (fun s_7 (h_8 : KV 0 2 v0 s_7) => ?_)
            refine pk_b1 (K_X10_put h_8) (fun s_9 (h_10 : KV 0 2 v0 s_9) => ?_)
            exact pk_some h_10
          · exact (K_X11_caller_63 h)
theorem K_X11_room_73 {v0 : Int32} {s : mG} (h : KV 0 2 v0 s) : pk (F_X11_room_73 s) (fun τ => KV 0 2 v0 τ.2) := by
  unfold F_X11_room_73
  exact pk_some h
theorem K_X11_room {v0 : Int32} {a1 : Int32} {a2 : Int32} {a3 : Int32} {a4 : Int32} {s : mG} (h : KV 0 2 v0 s) : pk (F_X11_room a1 a2 a3 a4 s) (fun τ => KV 0 2 v0 τ.2) := by
  unfold F_X11_room
  refine pk_ite ?_ ?_
  · refine pk_b1 (K_X10_clear h) (fun s_1 (h_2 : KV 0 2 v0 s_1) => ?_)
    exact pk_some h_2
  · refine pk_b1 pk_top (fun _ _ => ?_)
    refine pk_ite ?_ ?_
    · exact (K_X11_room_73 h)
    · refine pk_b1 pk_top (fun _ _ => ?_)
      refine pk_ite ?_ ?_
      · exact (K_X11_room_73 h)
      · refine pk_b1 pk_top (fun _ _ => ?_)
        refine pk_ite ?_ ?_
        · exact (K_X11_room_73 h)
        · refine pk_b1 pk_top (fun _ _ => ?_)
          refine pk_ite ?_ ?_
          · exact (K_X11_room_73 h)
          · refine pk_b1 pk_top (fun _ _ => ?_)
            refine pk_ite ?_ ?_
            · refine pk_b2 (K_X10_add h) (fun _ s_3 (h_4 : KV 0 2 v0 s_3) => ?_)
              refine pk_b1 (K_X10_put h_4) (fun s_5 (h_6 : KV 0 2 v0 s_5) => ?_)
              refine pk_b1 (K_X10_put h_6) (fun s_7 (h_8 : KV 0 2 v0 s_7) => ?_)
              refine pk_b1 (K_X10_put h_8) (fun s_9 (h_10 : KV 0 2 v0 s_9) => ?_)
              refine pk_b1 (K_X10_put h_10) (fun s_11 (h_12 : KV 0 2 v0 s_11) => ?_)
              exact pk_some h_12
            · exact (K_X11_room_73 h)
theorem K_X11_undo {v0 : Int32} {s : mG} (h : KV 0 2 v0 s) : pk (F_X11_undo s) (fun τ => KV 0 2 v0 τ.2) := by
  unfold F_X11_undo
  refine pk_b2 (K_X5_giveBack h) (fun _ s_1 (h_2 : KV 0 2 v0 s_1) => ?_)
  refine pk_pp ?_
  exact pk_some h_2
theorem K_X11_of {v0 : Int32} {a1 : Int32} {a2 : Int32} {s : mG} (h : KV 0 2 v0 s) : pk (F_X11_of a1 a2 s) (fun τ => KV 0 2 v0 τ.2) := by
  unfold F_X11_of
  refine pk_b1 pk_top (fun _ _ => ?_)
  refine pk_ite ?_ ?_
  · exact pk_some h
  · refine pk_b1 pk_top (fun _ _ => ?_)
    refine pk_ite ?_ ?_
    · refine pk_ite ?_ ?_
      · refine pk_b2 (K_X0_sureOf h) (fun _ s_1 (h_2 : KV 0 2 v0 s_1) => ?_)
        exact pk_some h_2
      · refine pk_b1 pk_top (fun _ _ => ?_)
        refine pk_ite ?_ ?_
        · exact pk_some h
        · refine pk_b1 (K_X3_face h) (fun s_3 (h_4 : KV 0 2 v0 s_3) => ?_)
          refine pk_b2 (K_X3_tells h_4) (fun _ s_5 (h_6 : KV 0 2 v0 s_5) => ?_)
          exact pk_some h_6
    · refine pk_b1 pk_top (fun _ _ => ?_)
      exact pk_some h
theorem K_X11_next {v0 : Int32} {a1 : Int32} {s : mG} (h : KV 0 2 v0 s) : pk (F_X11_next a1 s) (fun τ => KV 0 2 v0 τ.2) := by
  unfold F_X11_next
  refine pk_b1 pk_top (fun _ _ => ?_)
  refine pk_ite ?_ ?_
  · exact pk_some h
  · refine pk_b2 (K_X0_signAt h) (fun _ s_1 (h_2 : KV 0 2 v0 s_1) => ?_)
    exact pk_some h_2
theorem K_X11_looksAt_27 {v0 : Int32} {s : mG} (h : KV 0 2 v0 s) : pk (F_X11_looksAt_27 s) (fun τ => KV 0 2 v0 τ.2) := by
  unfold F_X11_looksAt_27
  exact pk_some h
theorem K_X11_looksAt {v0 : Int32} {a1 : Int32} {a2 : Int32} {s : mG} (h : KV 0 2 v0 s) : pk (F_X11_looksAt a1 a2 s) (fun τ => KV 0 2 v0 τ.2) := by
  unfold F_X11_looksAt
  refine pk_b1 pk_top (fun _ _ => ?_)
  refine pk_ite ?_ ?_
  · exact (K_X11_looksAt_27 h)
  · refine pk_ite ?_ ?_
    · exact (K_X11_looksAt_27 h)
    · refine pk_b2 (K_X0_signAt h) (fun _ s_1 (h_2 : KV 0 2 v0 s_1) => ?_)
      exact pk_some h_2
theorem K_X11_say_33 {v0 : Int32} {s : mG} (h : KV 0 2 v0 s) : pk (F_X11_say_33 s) (fun τ => KV 0 2 v0 τ.2) := by
  unfold F_X11_say_33
  exact pk_some h
theorem K_X11_say {v0 : Int32} {a1 : Int32} {a2 : Int32} {a3 : Int32} {s : mG} (h : KV 0 2 v0 s) : pk (F_X11_say a1 a2 a3 s) (fun τ => KV 0 2 v0 τ.2) := by
  unfold F_X11_say
  refine pk_b1 pk_top (fun _ _ => ?_)
  refine pk_ite ?_ ?_
  · exact (K_X11_say_33 h)
  · refine pk_b1 pk_top (fun _ _ => ?_)
    refine pk_ite ?_ ?_
    · exact (K_X11_say_33 h)
    · refine pk_b1 pk_top (fun _ _ => ?_)
      refine pk_ite ?_ ?_
      · exact (K_X11_say_33 h)
      · refine pk_b2 (K_X0_saysIn h) (fun _ s_1 (h_2 : KV 0 2 v0 s_1) => ?_)
        refine pk_ite ?_ ?_
        · exact pk_some h_2
        · exact pk_some h_2
theorem K_X11_said_23 {v0 : Int32} {y1 : Int32} {s : mG} (h : KV 0 2 v0 s) : pk (F_X11_said_23 y1 s) (fun τ => KV 0 2 v0 τ.2) := by
  unfold F_X11_said_23
  refine pk_b2 (K_X0_saidToAll h) (fun _ s_1 (h_2 : KV 0 2 v0 s_1) => ?_)
  exact pk_some h_2
theorem K_X11_said {v0 : Int32} {a1 : Int32} {s : mG} (h : KV 0 2 v0 s) : pk (F_X11_said a1 s) (fun τ => KV 0 2 v0 τ.2) := by
  unfold F_X11_said
  refine pk_b1 pk_top (fun _ _ => ?_)
  refine pk_ite ?_ ?_
  · exact pk_some h
  · refine pk_ite ?_ ?_
    · exact (K_X11_said_23 h)
    · exact (K_X11_said_23 h)
theorem K_X11_many {v0 : Int32} {a1 : Int32} {s : mG} (h : KV 0 2 v0 s) : pk (F_X11_many a1 s) (fun τ => KV 0 2 v0 τ.2) := by
  unfold F_X11_many
  refine pk_ite ?_ ?_
  · refine pk_b2 (K_X0_sumOfSure h) (fun _ s_1 (h_2 : KV 0 2 v0 s_1) => ?_)
    exact pk_some h_2
  · refine pk_ite ?_ ?_
    · refine pk_b2 (K_X0_likeliest h) (fun _ s_3 (h_4 : KV 0 2 v0 s_3) => ?_)
      exact pk_some h_4
    · refine pk_ite ?_ ?_
      · refine pk_b2 (K_X0_likeliest h) (fun _ s_5 (h_6 : KV 0 2 v0 s_5) => ?_)
        exact pk_some h_6
      · exact pk_some h
theorem K_X11_span_20 {v0 : Int32} {s : mG} (h : KV 0 2 v0 s) : pk (F_X11_span_20 s) (fun τ => KV 0 2 v0 τ.2) := by
  unfold F_X11_span_20
  exact pk_some h
theorem K_X11_span_37 {v0 : Int32} {y1 : Int32} {y2 : Int32} {s : mG} (h : KV 0 2 v0 s) : pk (F_X11_span_37 y1 y2 s) (fun τ => KV 0 2 v0 τ.2) := by
  unfold F_X11_span_37
  refine pk_b2 (K_X0_spanEdge h) (fun _ s_1 (h_2 : KV 0 2 v0 s_1) => ?_)
  exact pk_some h_2
theorem K_X11_span {v0 : Int32} {a1 : Int32} {a2 : Int32} {s : mG} (h : KV 0 2 v0 s) : pk (F_X11_span a1 a2 s) (fun τ => KV 0 2 v0 τ.2) := by
  unfold F_X11_span
  refine pk_b1 pk_top (fun _ _ => ?_)
  refine pk_ite ?_ ?_
  · exact (K_X11_span_20 h)
  · refine pk_b1 pk_top (fun _ _ => ?_)
    refine pk_ite ?_ ?_
    · exact (K_X11_span_20 h)
    · refine pk_ite ?_ ?_
      · exact (K_X11_span_37 h)
      · exact (K_X11_span_37 h)
theorem K_X11_counted_21 {v0 : Int32} {s : mG} (h : KV 0 2 v0 s) : pk (F_X11_counted_21 s) (fun τ => KV 0 2 v0 τ.2) := by
  unfold F_X11_counted_21
  exact pk_some h
theorem K_X11_counted {v0 : Int32} {a1 : Int32} {a2 : Int32} {s : mG} (h : KV 0 2 v0 s) : pk (F_X11_counted a1 a2 s) (fun τ => KV 0 2 v0 τ.2) := by
  unfold F_X11_counted
  refine pk_b1 pk_top (fun _ _ => ?_)
  refine pk_ite ?_ ?_
  · exact (K_X11_counted_21 h)
  · refine pk_b1 pk_top (fun _ _ => ?_)
    refine pk_ite ?_ ?_
    · exact (K_X11_counted_21 h)
    · refine pk_b2 (K_X0_amongCounted h) (fun _ s_1 (h_2 : KV 0 2 v0 s_1) => ?_)
      exact pk_some h_2
theorem K_X11_empty {v0 : Int32} {a1 : Int32} {s : mG} (h : KV 0 2 v0 s) : pk (F_X11_empty a1 s) (fun τ => KV 0 2 v0 τ.2) := by
  unfold F_X11_empty
  refine pk_b1 pk_top (fun _ _ => ?_)
  refine pk_ite ?_ ?_
  · exact pk_some h
  · refine pk_b2 (K_X0_emptyChance h) (fun _ s_1 (h_2 : KV 0 2 v0 s_1) => ?_)
    exact pk_some h_2
theorem K_X11_pair_23 {v0 : Int32} {s : mG} (h : KV 0 2 v0 s) : pk (F_X11_pair_23 s) (fun τ => KV 0 2 v0 τ.2) := by
  unfold F_X11_pair_23
  exact pk_some h
theorem K_X11_pair {v0 : Int32} {a1 : Int32} {s : mG} (h : KV 0 2 v0 s) : pk (F_X11_pair a1 s) (fun τ => KV 0 2 v0 τ.2) := by
  unfold F_X11_pair
  refine pk_b1 pk_top (fun _ _ => ?_)
  refine pk_ite ?_ ?_
  · exact (K_X11_pair_23 h)
  · refine pk_ite ?_ ?_
    · refine pk_b2 (K_X0_bestPair h) (fun _ s_1 (h_2 : KV 0 2 v0 s_1) => ?_)
      exact pk_some h_2
    · exact (K_X11_pair_23 h)
theorem K_X11_lack {v0 : Int32} {a1 : Int32} {s : mG} (h : KV 0 2 v0 s) : pk (F_X11_lack a1 s) (fun τ => KV 0 2 v0 τ.2) := by
  unfold F_X11_lack
  refine pk_ite ?_ ?_
  · refine pk_b1 pk_top (fun _ _ => ?_)
    refine pk_b1 pk_top (fun _ _ => ?_)
    exact pk_some h
  · refine pk_ite ?_ ?_
    · refine pk_b2 (K_X0_keylessOut h) (fun _ s_1 (h_2 : KV 0 2 v0 s_1) => ?_)
      exact pk_some h_2
    · refine pk_ite ?_ ?_
      · refine pk_b1 pk_top (fun _ _ => ?_)
        refine pk_b1 pk_top (fun _ _ => ?_)
        refine pk_b1 pk_top (fun _ _ => ?_)
        exact pk_some h
      · exact pk_some h
end
