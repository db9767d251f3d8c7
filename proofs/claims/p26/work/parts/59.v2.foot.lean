noncomputable section
theorem W_X9_roomAt_L2 {M : Nat} {z : mG} {x1 : Int32} {x2 : Int32} {s : mG} (hM : sub 19363473467196621493108736 M) (h : KB M z s) : pk (F_X9_roomAt_L2 x1 x2 s) (fun τ => KB M z τ.2) := by
  unfold F_X9_roomAt_L2
  refine pk_whl (fun v => KB M z v.2.2) h (fun v hv => ?_)
  obtain ⟨y0, y1, y2⟩ := v
  exact W_X9_roomAt_B2 (sub_tr (by decide +kernel) hM) hv
theorem W_X9_roomAt {M : Nat} {z : mG} {a1 : Int32} {s : mG} (hM : sub 19363473467196621493108736 M) (h : KB M z s) : pk (F_X9_roomAt a1 s) (fun τ => KB M z τ.2) := by
  unfold F_X9_roomAt
  exact (W_X9_roomAt_L2 (sub_tr (by decide +kernel) hM) h)
theorem W_X9_searchOn_148 {M : Nat} {z : mG} {rec : Int32 → Int32 → Int32 → Int32 → Int64 → mG → Option (mG)} {x1 : Int32} {x2 : Int32} {x3 : Int32} {x4 : Int32} {x5 : Int64} {x7 : Int32} {s : mG} (hM : sub 0 M) (hrec : ∀ (b0 : Int32) (b1 : Int32) (b2 : Int32) (b3 : Int32) (b4 : Int64) (r : mG), KB M z r → pk (rec b0 b1 b2 b3 b4 r) (fun τ => KB M z τ)) (h : KB M z s) : pk (F_X9_searchOn_148 rec x1 x2 x3 x4 x5 x7 s) (se (fun τ => KB M z τ.2.2.2.2.2.2) (fun τ => KB M z τ)) := by
  unfold F_X9_searchOn_148
  exact pk_some h
theorem W_X9_searchOn_B65 {M : Nat} {z : mG} {rec : Int32 → Int32 → Int32 → Int32 → Int64 → mG → Option (mG)} {x1 : Int32} {x2 : Int32} {x3 : Int32} {x4 : Int32} {x5 : Int64} {x7 : Int32} {s : mG} (hM : sub 77371252455336267181195264 M) (hrec : ∀ (b0 : Int32) (b1 : Int32) (b2 : Int32) (b3 : Int32) (b4 : Int64) (r : mG), KB M z r → pk (rec b0 b1 b2 b3 b4 r) (fun τ => KB M z τ)) (h : KB M z s) : pk (F_X9_searchOn_B65 rec x1 x2 x3 x4 x5 x7 s) (se (fun τ => KB M z τ.2.2.2.2.2.2) (fun τ => KB M z τ)) := by
  unfold F_X9_searchOn_B65
  refine pk_ite ?_ ?_
  · exact pk_some h
  · refine pk_ite ?_ ?_
    · exact pk_some h
    · extract_lets +onlyGivenNames v_1
      clear_value v_1
      refine pk_ite ?_ ?_
      · refine pk_ite ?_ ?_
        · exact (W_X9_searchOn_148 (sub_tr (by decide +kernel) hM) hrec h)
        · refine pk_b1 (W_X11_put (sub_tr (by decide +kernel) hM) (hM 86 (by decide +kernel)) h) (fun s_2 (h_3 : KB M z s_2) => ?_)
          refine pk_b1 pk_top (fun _ _ => ?_)
          refine pk_b1 (hrec _ _ _ _ _ _ h_3) (fun s_4 (h_5 : KB M z s_4) => ?_)
          exact (W_X9_searchOn_148 (sub_tr (by decide +kernel) hM) hrec h_5)
      · exact (W_X9_searchOn_148 (sub_tr (by decide +kernel) hM) hrec h)
theorem W_X9_searchOn_L65 {M : Nat} {z : mG} {rec : Int32 → Int32 → Int32 → Int32 → Int64 → mG → Option (mG)} {x1 : Int32} {x2 : Int32} {x3 : Int32} {x4 : Int32} {x5 : Int64} {x7 : Int32} {s : mG} (hM : sub 77371252455336267181195264 M) (hrec : ∀ (b0 : Int32) (b1 : Int32) (b2 : Int32) (b3 : Int32) (b4 : Int64) (r : mG), KB M z r → pk (rec b0 b1 b2 b3 b4 r) (fun τ => KB M z τ)) (h : KB M z s) : pk (F_X9_searchOn_L65 rec x1 x2 x3 x4 x5 x7 s) (fun τ => KB M z τ) := by
  unfold F_X9_searchOn_L65
  refine pk_whl (fun v => KB M z v.2.2.2.2.2.2) h (fun v hv => ?_)
  obtain ⟨y0, y1, y2, y3, y4, y5, y6⟩ := v
  exact W_X9_searchOn_B65 (sub_tr (by decide +kernel) hM) hrec hv
theorem W_X9_searchOn_62 {M : Nat} {z : mG} {rec : Int32 → Int32 → Int32 → Int32 → Int64 → mG → Option (mG)} {x1 : Int32} {x2 : Int32} {x3 : Int32} {x4 : Int32} {x5 : Int64} {s : mG} (hM : sub 77371252455336267181195264 M) (hrec : ∀ (b0 : Int32) (b1 : Int32) (b2 : Int32) (b3 : Int32) (b4 : Int64) (r : mG), KB M z r → pk (rec b0 b1 b2 b3 b4 r) (fun τ => KB M z τ)) (h : KB M z s) : pk (F_X9_searchOn_62 rec x1 x2 x3 x4 x5 s) (fun τ => KB M z τ) := by
  unfold F_X9_searchOn_62
  exact (W_X9_searchOn_L65 (sub_tr (by decide +kernel) hM) hrec h)
theorem W_X9_searchOn_B25 {M : Nat} {z : mG} {rec : Int32 → Int32 → Int32 → Int32 → Int64 → mG → Option (mG)} {x1 : Int32} {x2 : Int32} {x3 : Int32} {x4 : Int32} {x5 : Int64} {x7 : Int32} {s : mG} (hM : sub 232113757366008801543585792 M) (hrec : ∀ (b0 : Int32) (b1 : Int32) (b2 : Int32) (b3 : Int32) (b4 : Int64) (r : mG), KB M z r → pk (rec b0 b1 b2 b3 b4 r) (fun τ => KB M z τ)) (h : KB M z s) : pk (F_X9_searchOn_B25 rec x1 x2 x3 x4 x5 x7 s) (se (fun τ => KB M z τ.2.2.2.2.2.2) (fun τ => KB M z τ)) := by
  unfold F_X9_searchOn_B25
  refine pk_ite ?_ ?_
  · refine pk_b1r ?_
    exact (W_X9_searchOn_62 (sub_tr (by decide +kernel) hM) hrec h)
  · refine pk_ite ?_ ?_
    · refine pk_b1r ?_
      exact (W_X9_searchOn_62 (sub_tr (by decide +kernel) hM) hrec h)
    · refine pk_b1 pk_top (fun _ _ => ?_)
      refine pk_b1 (W_X11_put (sub_tr (by decide +kernel) hM) (hM 87 (by decide +kernel)) h) (fun s_1 (h_2 : KB M z s_1) => ?_)
      exact pk_some h_2
theorem W_X9_searchOn_L25 {M : Nat} {z : mG} {rec : Int32 → Int32 → Int32 → Int32 → Int64 → mG → Option (mG)} {x1 : Int32} {x2 : Int32} {x3 : Int32} {x4 : Int32} {x5 : Int64} {x7 : Int32} {s : mG} (hM : sub 232113757366008801543585792 M) (hrec : ∀ (b0 : Int32) (b1 : Int32) (b2 : Int32) (b3 : Int32) (b4 : Int64) (r : mG), KB M z r → pk (rec b0 b1 b2 b3 b4 r) (fun τ => KB M z τ)) (h : KB M z s) : pk (F_X9_searchOn_L25 rec x1 x2 x3 x4 x5 x7 s) (fun τ => KB M z τ) := by
  unfold F_X9_searchOn_L25
  refine pk_whl (fun v => KB M z v.2.2.2.2.2.2) h (fun v hv => ?_)
  obtain ⟨y0, y1, y2, y3, y4, y5, y6⟩ := v
  exact W_X9_searchOn_B25 (sub_tr (by decide +kernel) hM) hrec hv
theorem W_X9_searchOn {M : Nat} {z : mG} {rec : Int32 → Int32 → Int32 → Int32 → Int64 → mG → Option (mG)} {a1 : Int32} {a2 : Int32} {a3 : Int32} {a4 : Int32} {a5 : Int64} {s : mG} (hM : sub 241785163922925834941235200 M) (hrec : ∀ (b0 : Int32) (b1 : Int32) (b2 : Int32) (b3 : Int32) (b4 : Int64) (r : mG), KB M z r → pk (rec b0 b1 b2 b3 b4 r) (fun τ => KB M z τ)) (h : KB M z s) : pk (F_X9_searchOn rec a1 a2 a3 a4 a5 s) (fun τ => KB M z τ) := by
  unfold F_X9_searchOn
  refine pk_ite ?_ ?_
  · exact (W_X9_searchOn_62 (sub_tr (by decide +kernel) hM) hrec h)
  · extract_lets +onlyGivenNames s_1
    have h_2 : KB M z s_1 := h
    clear_value s_1
    extract_lets +onlyGivenNames s_3
    have h_4 : KB M z s_3 := KB_mu h_2 (hM 83 (by decide +kernel))
    clear_value s_3
    exact (W_X9_searchOn_L25 (sub_tr (by decide +kernel) hM) hrec h_4)
theorem W_Q_X9_searchOn {M : Nat} {z : mG} (hM : sub 241785163922925834941235200 M) : ∀ (n : Nat) (a0 : Int32) (a1 : Int32) (a2 : Int32) (a3 : Int32) (a4 : Int64) (s : mG), KB M z s → pk (Q_X9_searchOn n a0 a1 a2 a3 a4 s) (fun τ => KB M z τ)
  | 0, _, _, _, _, _, _, _ => pk_none
  | n + 1, _, _, _, _, _, _, h => W_X9_searchOn (sub_tr (by decide +kernel) hM) (fun a0 a1 a2 a3 a4 s h => W_Q_X9_searchOn hM n a0 a1 a2 a3 a4 s h) h
theorem W_R_X9_searchOn {M : Nat} {z : mG} {a0 : Int32} {a1 : Int32} {a2 : Int32} {a3 : Int32} {a4 : Int64} {s : mG} (hM : sub 241785163922925834941235200 M) (h : KB M z s) : pk (R_X9_searchOn a0 a1 a2 a3 a4 s) (fun τ => KB M z τ) := W_Q_X9_searchOn hM 5 a0 a1 a2 a3 a4 s h
theorem W_X9_searchFloors_B26 {M : Nat} {z : mG} {x1 : Int32} {x2 : Int32} {s : mG} (hM : sub 280491450503956523229642752 M) (h : KB M z s) : pk (F_X9_searchFloors_B26 x1 x2 s) (se (fun τ => KB M z τ.2.2) (fun τ => KB M z τ)) := by
  unfold F_X9_searchFloors_B26
  refine pk_ite ?_ ?_
  · extract_lets +onlyGivenNames s_1
    have h_2 : KB M z s_1 := h
    clear_value s_1
    extract_lets +onlyGivenNames s_3
    have h_4 : KB M z s_3 := KB_mu h_2 (hM 83 (by decide +kernel))
    clear_value s_3
    refine pk_b1 (W_X9_searchOn (sub_tr (by decide +kernel) hM) (fun _ _ _ _ _ _ h => W_R_X9_searchOn (sub_tr (by decide +kernel) hM) h) h_4) (fun s_5 (h_6 : KB M z s_5) => ?_)
    exact pk_some h_6
  · refine pk_b1 pk_top (fun _ _ => ?_)
    refine pk_b1 pk_top (fun _ _ => ?_)
    refine pk_b2 (W_X0_sureOf (sub_tr (by decide +kernel) hM) h) (fun _ s_7 (h_8 : KB M z s_7) => ?_)
    refine pk_b1 (W_X11_put (sub_tr (by decide +kernel) hM) (hM 85 (by decide +kernel)) h_8) (fun s_9 (h_10 : KB M z s_9) => ?_)
    exact pk_some h_10
theorem W_X9_searchFloors_L26 {M : Nat} {z : mG} {x1 : Int32} {x2 : Int32} {s : mG} (hM : sub 280491450503956523229642752 M) (h : KB M z s) : pk (F_X9_searchFloors_L26 x1 x2 s) (fun τ => KB M z τ) := by
  unfold F_X9_searchFloors_L26
  refine pk_whl (fun v => KB M z v.2.2) h (fun v hv => ?_)
  obtain ⟨y0, y1, y2⟩ := v
  exact W_X9_searchFloors_B26 (sub_tr (by decide +kernel) hM) hv
theorem W_X9_searchFloors_B2 {M : Nat} {z : mG} {x1 : Int32} {x2 : Int32} {s : mG} (hM : sub 280491450503956523229642752 M) (h : KB M z s) : pk (F_X9_searchFloors_B2 x1 x2 s) (se (fun τ => KB M z τ.2.2) (fun τ => KB M z τ)) := by
  unfold F_X9_searchFloors_B2
  refine pk_ite ?_ ?_
  · refine pk_b1r ?_
    exact (W_X9_searchFloors_L26 (sub_tr (by decide +kernel) hM) h)
  · refine pk_nn ?_
    extract_lets +onlyGivenNames s_1
    have h_2 : KB M z s_1 := KB_mu h (hM 85 (by decide +kernel))
    clear_value s_1
    exact pk_some h_2
theorem W_X9_searchFloors_L2 {M : Nat} {z : mG} {x1 : Int32} {x2 : Int32} {s : mG} (hM : sub 280491450503956523229642752 M) (h : KB M z s) : pk (F_X9_searchFloors_L2 x1 x2 s) (fun τ => KB M z τ) := by
  unfold F_X9_searchFloors_L2
  refine pk_whl (fun v => KB M z v.2.2) h (fun v hv => ?_)
  obtain ⟨y0, y1, y2⟩ := v
  exact W_X9_searchFloors_B2 (sub_tr (by decide +kernel) hM) hv
theorem W_X9_searchFloors {M : Nat} {z : mG} {a1 : Int32} {s : mG} (hM : sub 280491450503956523229642752 M) (h : KB M z s) : pk (F_X9_searchFloors a1 s) (fun τ => KB M z τ) := by
  unfold F_X9_searchFloors
  exact (W_X9_searchFloors_L2 (sub_tr (by decide +kernel) hM) h)
theorem W_X11_state {M : Nat} {z : mG} {a1 : Int32} {s : mG} (hM : sub 34359738370 M) (h : KB M z s) : pk (F_X11_state a1 s) (fun τ => KB M z τ.2) := by
  unfold F_X11_state
  extract_lets +onlyGivenNames s_1
  have h_2 : KB M z s_1 := KB_mu h (hM 1 (by decide +kernel))
  clear_value s_1
  refine pk_b1 (W_X5_forget (sub_tr (by decide +kernel) hM) h_2) (fun s_3 (h_4 : KB M z s_3) => ?_)
  exact pk_some h_4
theorem W_X11_guest_32 {M : Nat} {z : mG} {s : mG} (hM : sub 0 M) (h : KB M z s) : pk (F_X11_guest_32 s) (fun τ => KB M z τ.2) := by
  unfold F_X11_guest_32
  exact pk_some h
theorem W_X11_guest {M : Nat} {z : mG} {a1 : Int32} {a2 : Int32} {s : mG} (hM : sub 34359738380 M) (h : KB M z s) : pk (F_X11_guest a1 a2 s) (fun τ => KB M z τ.2) := by
  unfold F_X11_guest
  refine pk_b1 pk_top (fun _ _ => ?_)
  refine pk_ite ?_ ?_
  · exact (W_X11_guest_32 (sub_tr (by decide +kernel) hM) h)
  · refine pk_b1 pk_top (fun _ _ => ?_)
    refine pk_ite ?_ ?_
    · exact (W_X11_guest_32 (sub_tr (by decide +kernel) hM) h)
    · refine pk_b1 pk_top (fun _ _ => ?_)
      refine pk_ite ?_ ?_
      · refine pk_b1 (W_X5_forget (sub_tr (by decide +kernel) hM) h) (fun s_1 (h_2 : KB M z s_1) => ?_)
        refine pk_b2 (W_X2_addGuest (sub_tr (by decide +kernel) hM) (hM 2 (by decide +kernel)) (hM 3 (by decide +kernel)) h_2) (fun _ s_3 (h_4 : KB M z s_3) => ?_)
        exact pk_some h_4
      · exact (W_X11_guest_32 (sub_tr (by decide +kernel) hM) h)
theorem W_X11_set_56 {M : Nat} {z : mG} {s : mG} (hM : sub 34359738368 M) (h : KB M z s) : pk (F_X11_set_56 s) (fun τ => KB M z τ.2) := by
  unfold F_X11_set_56
  refine pk_b1 (W_X5_forget (sub_tr (by decide +kernel) hM) h) (fun s_1 (h_2 : KB M z s_1) => ?_)
  exact pk_some h_2
theorem W_X11_set {M : Nat} {z : mG} {a1 : Int32} {a2 : Int32} {a3 : Int32} {s : mG} (hM : sub 34359738378 M) (h : KB M z s) : pk (F_X11_set a1 a2 a3 s) (fun τ => KB M z τ.2) := by
  unfold F_X11_set
  refine pk_b1 pk_top (fun _ _ => ?_)
  refine pk_ite ?_ ?_
  · exact pk_some h
  · refine pk_ite ?_ ?_
    · extract_lets +onlyGivenNames s_1
      have h_2 : KB M z s_1 := KB_mu h (hM 1 (by decide +kernel))
      clear_value s_1
      exact (W_X11_set_56 (sub_tr (by decide +kernel) hM) h_2)
    · refine pk_ite ?_ ?_
      · extract_lets +onlyGivenNames s_3
        have h_4 : KB M z s_3 := KB_mu h (hM 1 (by decide +kernel))
        clear_value s_3
        exact (W_X11_set_56 (sub_tr (by decide +kernel) hM) h_4)
      · refine pk_b1 (W_X10_put (sub_tr (by decide +kernel) hM) (hM 3 (by decide +kernel)) h) (fun s_5 (h_6 : KB M z s_5) => ?_)
        exact (W_X11_set_56 (sub_tr (by decide +kernel) hM) h_6)
theorem W_X11_hang_44 {M : Nat} {z : mG} {s : mG} (hM : sub 0 M) (h : KB M z s) : pk (F_X11_hang_44 s) (fun τ => KB M z τ.2) := by
  unfold F_X11_hang_44
  exact pk_some h
theorem W_X11_hang {M : Nat} {z : mG} {a1 : Int32} {a2 : Int32} {s : mG} (hM : sub 36028693939748920 M) (h : KB M z s) : pk (F_X11_hang a1 a2 s) (fun τ => KB M z τ.2) := by
  unfold F_X11_hang
  refine pk_b1 pk_top (fun _ _ => ?_)
  refine pk_ite ?_ ?_
  · exact (W_X11_hang_44 (sub_tr (by decide +kernel) hM) h)
  · refine pk_b1 pk_top (fun _ _ => ?_)
    refine pk_ite ?_ ?_
    · exact (W_X11_hang_44 (sub_tr (by decide +kernel) hM) h)
    · refine pk_b1 pk_top (fun _ _ => ?_)
      refine pk_ite ?_ ?_
      · exact (W_X11_hang_44 (sub_tr (by decide +kernel) hM) h)
      · refine pk_b1 pk_top (fun _ _ => ?_)
        refine pk_ite ?_ ?_
        · refine pk_b1 (W_X5_keep (sub_tr (by decide +kernel) hM) h) (fun s_1 (h_2 : KB M z s_1) => ?_)
          refine pk_b1 (W_X10_put (sub_tr (by decide +kernel) hM) (hM 3 (by decide +kernel)) h_2) (fun s_3 (h_4 : KB M z s_3) => ?_)
          refine pk_b1 (W_X2_write (sub_tr (by decide +kernel) hM) (hM 4 (by decide +kernel)) (hM 5 (by decide +kernel)) h_4) (fun s_5 (h_6 : KB M z s_5) => ?_)
          exact pk_some h_6
        · exact (W_X11_hang_44 (sub_tr (by decide +kernel) hM) h)
theorem W_X11_looks_31 {M : Nat} {z : mG} {s : mG} (hM : sub 0 M) (h : KB M z s) : pk (F_X11_looks_31 s) (fun τ => KB M z τ.2) := by
  unfold F_X11_looks_31
  exact pk_some h
theorem W_X11_looks {M : Nat} {z : mG} {a1 : Int32} {a2 : Int32} {a3 : Int32} {s : mG} (hM : sub 36028693939748872 M) (h : KB M z s) : pk (F_X11_looks a1 a2 a3 s) (fun τ => KB M z τ.2) := by
  unfold F_X11_looks
  refine pk_b1 pk_top (fun _ _ => ?_)
  refine pk_ite ?_ ?_
  · exact (W_X11_looks_31 (sub_tr (by decide +kernel) hM) h)
  · refine pk_b1 pk_top (fun _ _ => ?_)
    refine pk_ite ?_ ?_
    · exact (W_X11_looks_31 (sub_tr (by decide +kernel) hM) h)
    · refine pk_b1 pk_top (fun _ _ => ?_)
      refine pk_ite ?_ ?_
      · exact (W_X11_looks_31 (sub_tr (by decide +kernel) hM) h)
      · refine pk_b1 pk_top (fun _ _ => ?_)
        refine pk_ite ?_ ?_
        · exact pk_some h
        · refine pk_b1 (W_X5_keep (sub_tr (by decide +kernel) hM) h) (fun s_1 (h_2 : KB M z s_1) => ?_)
          refine pk_b1 (W_X10_put (sub_tr (by decide +kernel) hM) (hM 3 (by decide +kernel)) h_2) (fun s_3 (h_4 : KB M z s_3) => ?_)
          exact pk_some h_4
theorem W_X11_hours_25 {M : Nat} {z : mG} {s : mG} (hM : sub 0 M) (h : KB M z s) : pk (F_X11_hours_25 s) (fun τ => KB M z τ.2) := by
  unfold F_X11_hours_25
  exact pk_some h
theorem W_X11_hours_B31 {M : Nat} {z : mG} {x1 : Int32} {x2 : Int32} {x3 : Int32} {s : mG} (hM : sub 6493289942639701917754 M) (h : KB M z s) : pk (F_X11_hours_B31 x1 x2 x3 s) (se (fun τ => KB M z τ.2.2.2) (fun τ => KB M z τ.2)) := by
  unfold F_X11_hours_B31
  refine pk_ite ?_ ?_
  · exact pk_some h
  · refine pk_b1 (W_X5_keep (sub_tr (by decide +kernel) hM) h) (fun s_1 (h_2 : KB M z s_1) => ?_)
    refine pk_b2 (W_X6_passHour (sub_tr (by decide +kernel) hM) h_2) (fun _ s_3 (h_4 : KB M z s_3) => ?_)
    exact pk_some h_4
theorem W_X11_hours_L31 {M : Nat} {z : mG} {x1 : Int32} {x2 : Int32} {x3 : Int32} {s : mG} (hM : sub 6493289942639701917754 M) (h : KB M z s) : pk (F_X11_hours_L31 x1 x2 x3 s) (fun τ => KB M z τ.2) := by
  unfold F_X11_hours_L31
  refine pk_whl (fun v => KB M z v.2.2.2) h (fun v hv => ?_)
  obtain ⟨y0, y1, y2, y3⟩ := v
  exact W_X11_hours_B31 (sub_tr (by decide +kernel) hM) hv
theorem W_X11_hours {M : Nat} {z : mG} {a1 : Int32} {s : mG} (hM : sub 6493289942639701917754 M) (h : KB M z s) : pk (F_X11_hours a1 s) (fun τ => KB M z τ.2) := by
  unfold F_X11_hours
  refine pk_b1 pk_top (fun _ _ => ?_)
  refine pk_ite ?_ ?_
  · exact (W_X11_hours_25 (sub_tr (by decide +kernel) hM) h)
  · refine pk_ite ?_ ?_
    · exact (W_X11_hours_L31 (sub_tr (by decide +kernel) hM) h)
    · exact (W_X11_hours_25 (sub_tr (by decide +kernel) hM) h)
theorem W_X11_feed {M : Nat} {z : mG} {a1 : Int32} {a2 : Int32} {a3 : Int32} {a4 : Int32} {a5 : Int32} {s : mG} (hM : sub 18482772870728515584 M) (h : KB M z s) : pk (F_X11_feed a1 a2 a3 a4 a5 s) (fun τ => KB M z τ.2) := by
  unfold F_X11_feed
  refine pk_b1 pk_top (fun _ _ => ?_)
  refine pk_ite ?_ ?_
  · exact pk_some h
  · refine pk_b1 (W_X7_takeFour (sub_tr (by decide +kernel) hM) h) (fun s_1 (h_2 : KB M z s_1) => ?_)
    refine pk_b1 (W_X7_takeFour (sub_tr (by decide +kernel) hM) h_2) (fun s_3 (h_4 : KB M z s_3) => ?_)
    refine pk_b1 (W_X7_takeFour (sub_tr (by decide +kernel) hM) h_4) (fun s_5 (h_6 : KB M z s_5) => ?_)
    refine pk_b1 (W_X7_takeFour (sub_tr (by decide +kernel) hM) h_6) (fun s_7 (h_8 : KB M z s_7) => ?_)
    refine pk_b1 (W_X7_takeFour (sub_tr (by decide +kernel) hM) h_8) (fun s_9 (h_10 : KB M z s_9) => ?_)
    exact pk_some h_10
theorem W_X11_end {M : Nat} {z : mG} {a1 : Int32} {s : mG} (hM : sub 36028797018963968 M) (h : KB M z s) : pk (F_X11_end a1 s) (fun τ => KB M z τ.2) := by
  unfold F_X11_end
  refine pk_b1 pk_top (fun _ _ => ?_)
  refine pk_ite ?_ ?_
  · exact pk_some h
  · extract_lets +onlyGivenNames s_1
    have h_2 : KB M z s_1 := KB_mu h (hM 55 (by decide +kernel))
    clear_value s_1
    exact pk_some h_2
theorem W_X11_text {M : Nat} {z : mG} {a1 : Int32} {s : mG} (hM : sub 276665132342984064968 M) (h : KB M z s) : pk (F_X11_text a1 s) (fun τ => KB M z τ.2) := by
  unfold F_X11_text
  refine pk_b2 (W_X7_readText (sub_tr (by decide +kernel) hM) h) (fun _ s_1 (h_2 : KB M z s_1) => ?_)
  extract_lets +onlyGivenNames s_3
  have h_4 : KB M z s_3 := KB_mu h_2 (hM 55 (by decide +kernel))
  clear_value s_3
  refine pk_ite ?_ ?_
  · exact pk_some h_4
  · refine pk_ite ?_ ?_
    · refine pk_b1 (W_X10_copyFrom (sub_tr (by decide +kernel) hM) (hM 6 (by decide +kernel)) (hM 7 (by decide +kernel)) h_4) (fun s_5 (h_6 : KB M z s_5) => ?_)
      refine pk_b1 (W_X10_copyFrom (sub_tr (by decide +kernel) hM) (hM 8 (by decide +kernel)) (hM 9 (by decide +kernel)) h_6) (fun s_7 (h_8 : KB M z s_7) => ?_)
      exact pk_some h_8
    · refine pk_b1 (W_X5_forget (sub_tr (by decide +kernel) hM) h_4) (fun s_9 (h_10 : KB M z s_9) => ?_)
      refine pk_ite ?_ ?_
      · refine pk_b1 (W_X10_copyFrom (sub_tr (by decide +kernel) hM) (hM 10 (by decide +kernel)) (hM 11 (by decide +kernel)) h_10) (fun s_11 (h_12 : KB M z s_11) => ?_)
        refine pk_b1 (W_X2_forgetSeen (sub_tr (by decide +kernel) hM) (hM 3 (by decide +kernel)) h_12) (fun s_13 (h_14 : KB M z s_13) => ?_)
        exact pk_some h_14
      · refine pk_b1 (W_X10_copyFrom (sub_tr (by decide +kernel) hM) (hM 12 (by decide +kernel)) (hM 13 (by decide +kernel)) h_10) (fun s_15 (h_16 : KB M z s_15) => ?_)
        exact pk_some h_16
theorem W_X11_caller_63 {M : Nat} {z : mG} {s : mG} (hM : sub 0 M) (h : KB M z s) : pk (F_X11_caller_63 s) (fun τ => KB M z τ.2) := by
  unfold F_X11_caller_63
  exact pk_some h
theorem W_X11_caller {M : Nat} {z : mG} {a1 : Int32} {a2 : Int32} {a3 : Int32} {s : mG} (hM : sub 196608 M) (h : KB M z s) : pk (F_X11_caller a1 a2 a3 s) (fun τ => KB M z τ.2) := by
  unfold F_X11_caller
  refine pk_ite ?_ ?_
  · refine pk_b1 (W_X10_clear (sub_tr (by decide +kernel) hM) (hM 16 (by decide +kernel)) h) (fun s_1 (h_2 : KB M z s_1) => ?_)
    exact pk_some h_2
  · refine pk_b1 pk_top (fun _ _ => ?_)
    refine pk_ite ?_ ?_
    · exact (W_X11_caller_63 (sub_tr (by decide +kernel) hM) h)
    · refine pk_b1 pk_top (fun _ _ => ?_)
      refine pk_ite ?_ ?_
      · exact (W_X11_caller_63 (sub_tr (by decide +kernel) hM) h)
      · refine pk_b1 pk_top (fun _ _ => ?_)
        refine pk_ite ?_ ?_
        · exact (W_X11_caller_63 (sub_tr (by decide +kernel) hM) h)
        · refine pk_b1 pk_top (fun _ _ => ?_)
          refine pk_ite ?_ ?_
          · refine pk_b2 (W_X10_add (sub_tr (by decide +kernel) hM) (hM 16 (by decide +kernel)) h) (fun _ s_3 (h_4 : KB M z s_3) => ?_)
            refine pk_b1 (W_X10_put (sub_tr (by decide +kernel) hM) (hM 17 (by decide +kernel)) h_4) (fun s_5 (h_6 : KB M z s_5) => ?_)
            refine pk_b1 (W_X10_put (sub_tr (by decide +kernel) hM) (hM 17 (by decide +kernel)) h_6) (fun s_7 (h_8 : KB M z s_7) => ?_)
            refine pk_b1 (W_X10_put (sub_tr (by decide +kernel) hM) (hM 17 (by decide +kernel)) h_8) (fun s_9 (h_10 : KB M z s_9) => ?_)
            exact pk_some h_10
          · exact (W_X11_caller_63 (sub_tr (by decide +kernel) hM) h)
theorem W_X11_room_73 {M : Nat} {z : mG} {s : mG} (hM : sub 0 M) (h : KB M z s) : pk (F_X11_room_73 s) (fun τ => KB M z τ.2) := by
  unfold F_X11_room_73
  exact pk_some h
theorem W_X11_room {M : Nat} {z : mG} {a1 : Int32} {a2 : Int32} {a3 : Int32} {a4 : Int32} {s : mG} (hM : sub 49152 M) (h : KB M z s) : pk (F_X11_room a1 a2 a3 a4 s) (fun τ => KB M z τ.2) := by
  unfold F_X11_room
  refine pk_ite ?_ ?_
  · refine pk_b1 (W_X10_clear (sub_tr (by decide +kernel) hM) (hM 14 (by decide +kernel)) h) (fun s_1 (h_2 : KB M z s_1) => ?_)
    exact pk_some h_2
  · refine pk_b1 pk_top (fun _ _ => ?_)
    refine pk_ite ?_ ?_
    · exact (W_X11_room_73 (sub_tr (by decide +kernel) hM) h)
    · refine pk_b1 pk_top (fun _ _ => ?_)
      refine pk_ite ?_ ?_
      · exact (W_X11_room_73 (sub_tr (by decide +kernel) hM) h)
      · refine pk_b1 pk_top (fun _ _ => ?_)
        refine pk_ite ?_ ?_
        · exact (W_X11_room_73 (sub_tr (by decide +kernel) hM) h)
        · refine pk_b1 pk_top (fun _ _ => ?_)
          refine pk_ite ?_ ?_
          · exact (W_X11_room_73 (sub_tr (by decide +kernel) hM) h)
          · refine pk_b1 pk_top (fun _ _ => ?_)
            refine pk_ite ?_ ?_
            · refine pk_b2 (W_X10_add (sub_tr (by decide +kernel) hM) (hM 14 (by decide +kernel)) h) (fun _ s_3 (h_4 : KB M z s_3) => ?_)
              refine pk_b1 (W_X10_put (sub_tr (by decide +kernel) hM) (hM 15 (by decide +kernel)) h_4) (fun s_5 (h_6 : KB M z s_5) => ?_)
              refine pk_b1 (W_X10_put (sub_tr (by decide +kernel) hM) (hM 15 (by decide +kernel)) h_6) (fun s_7 (h_8 : KB M z s_7) => ?_)
              refine pk_b1 (W_X10_put (sub_tr (by decide +kernel) hM) (hM 15 (by decide +kernel)) h_8) (fun s_9 (h_10 : KB M z s_9) => ?_)
              refine pk_b1 (W_X10_put (sub_tr (by decide +kernel) hM) (hM 15 (by decide +kernel)) h_10) (fun s_11 (h_12 : KB M z s_11) => ?_)
              exact pk_some h_12
            · exact (W_X11_room_73 (sub_tr (by decide +kernel) hM) h)
theorem W_X11_undo {M : Nat} {z : mG} {s : mG} (hM : sub 34359738398 M) (h : KB M z s) : pk (F_X11_undo s) (fun τ => KB M z τ.2) := by
  unfold F_X11_undo
  refine pk_b2 (W_X5_giveBack (sub_tr (by decide +kernel) hM) (hM 1 (by decide +kernel)) (hM 2 (by decide +kernel)) (hM 3 (by decide +kernel)) (hM 4 (by decide +kernel)) h) (fun _ s_1 (h_2 : KB M z s_1) => ?_)
  refine pk_pp ?_
  exact pk_some h_2
theorem W_X11_image {M : Nat} {z : mG} {a1 : Int32} {s : mG} (hM : sub 68719476735 M) (h : KB M z s) : pk (F_X11_image a1 s) (fun τ => KB M z τ.2) := by
  unfold F_X11_image
  refine pk_ite ?_ ?_
  · refine pk_ite ?_ ?_
    · exact pk_some h
    · refine pk_b1 (W_X2_copyFrom (sub_tr (by decide +kernel) hM) (hM 1 (by decide +kernel)) (hM 2 (by decide +kernel)) (hM 3 (by decide +kernel)) (hM 4 (by decide +kernel)) (hM 5 (by decide +kernel)) (hM 6 (by decide +kernel)) (hM 7 (by decide +kernel)) (hM 8 (by decide +kernel)) (hM 9 (by decide +kernel)) (hM 10 (by decide +kernel)) (hM 11 (by decide +kernel)) (hM 12 (by decide +kernel)) (hM 13 (by decide +kernel)) (hM 14 (by decide +kernel)) (hM 15 (by decide +kernel)) (hM 16 (by decide +kernel)) (hM 17 (by decide +kernel)) h) (fun s_1 (h_2 : KB M z s_1) => ?_)
      refine pk_b1 (W_X5_forget (sub_tr (by decide +kernel) hM) h_2) (fun s_3 (h_4 : KB M z s_3) => ?_)
      exact pk_some h_4
  · refine pk_b1 (W_X2_copyFrom (sub_tr (by decide +kernel) hM) (hM 18 (by decide +kernel)) (hM 19 (by decide +kernel)) (hM 20 (by decide +kernel)) (hM 21 (by decide +kernel)) (hM 22 (by decide +kernel)) (hM 23 (by decide +kernel)) (hM 24 (by decide +kernel)) (hM 25 (by decide +kernel)) (hM 26 (by decide +kernel)) (hM 27 (by decide +kernel)) (hM 28 (by decide +kernel)) (hM 29 (by decide +kernel)) (hM 30 (by decide +kernel)) (hM 31 (by decide +kernel)) (hM 32 (by decide +kernel)) (hM 33 (by decide +kernel)) (hM 34 (by decide +kernel)) h) (fun s_5 (h_6 : KB M z s_5) => ?_)
    extract_lets +onlyGivenNames s_7
    have h_8 : KB M z s_7 := KB_mu h_6 (hM 0 (by decide +kernel))
    clear_value s_7
    exact pk_some h_8
theorem W_X11_of {M : Nat} {z : mG} {a1 : Int32} {a2 : Int32} {s : mG} (hM : sub 20660353362554697809920 M) (h : KB M z s) : pk (F_X11_of a1 a2 s) (fun τ => KB M z τ.2) := by
  unfold F_X11_of
  refine pk_b1 pk_top (fun _ _ => ?_)
  refine pk_ite ?_ ?_
  · exact pk_some h
  · refine pk_b1 pk_top (fun _ _ => ?_)
    refine pk_ite ?_ ?_
    · refine pk_ite ?_ ?_
      · refine pk_b2 (W_X0_sureOf (sub_tr (by decide +kernel) hM) h) (fun _ s_1 (h_2 : KB M z s_1) => ?_)
        exact pk_some h_2
      · refine pk_b1 pk_top (fun _ _ => ?_)
        refine pk_ite ?_ ?_
        · exact pk_some h
        · refine pk_b1 (W_X3_face (sub_tr (by decide +kernel) hM) h) (fun s_3 (h_4 : KB M z s_3) => ?_)
          refine pk_b2 (W_X3_tells (sub_tr (by decide +kernel) hM) h_4) (fun _ s_5 (h_6 : KB M z s_5) => ?_)
          exact pk_some h_6
    · refine pk_b1 pk_top (fun _ _ => ?_)
      exact pk_some h
theorem W_X11_next {M : Nat} {z : mG} {a1 : Int32} {s : mG} (hM : sub 20660353362554697809920 M) (h : KB M z s) : pk (F_X11_next a1 s) (fun τ => KB M z τ.2) := by
  unfold F_X11_next
  refine pk_b1 pk_top (fun _ _ => ?_)
  refine pk_ite ?_ ?_
  · exact pk_some h
  · refine pk_b2 (W_X0_signAt (sub_tr (by decide +kernel) hM) h) (fun _ s_1 (h_2 : KB M z s_1) => ?_)
    exact pk_some h_2
theorem W_X11_looksAt_27 {M : Nat} {z : mG} {s : mG} (hM : sub 0 M) (h : KB M z s) : pk (F_X11_looksAt_27 s) (fun τ => KB M z τ.2) := by
  unfold F_X11_looksAt_27
  exact pk_some h
theorem W_X11_looksAt {M : Nat} {z : mG} {a1 : Int32} {a2 : Int32} {s : mG} (hM : sub 20660353362554697809920 M) (h : KB M z s) : pk (F_X11_looksAt a1 a2 s) (fun τ => KB M z τ.2) := by
  unfold F_X11_looksAt
  refine pk_b1 pk_top (fun _ _ => ?_)
  refine pk_ite ?_ ?_
  · exact (W_X11_looksAt_27 (sub_tr (by decide +kernel) hM) h)
  · refine pk_ite ?_ ?_
    · exact (W_X11_looksAt_27 (sub_tr (by decide +kernel) hM) h)
    · refine pk_b2 (W_X0_signAt (sub_tr (by decide +kernel) hM) h) (fun _ s_1 (h_2 : KB M z s_1) => ?_)
      exact pk_some h_2
theorem W_X11_say_33 {M : Nat} {z : mG} {s : mG} (hM : sub 0 M) (h : KB M z s) : pk (F_X11_say_33 s) (fun τ => KB M z τ.2) := by
  unfold F_X11_say_33
  exact pk_some h
theorem W_X11_say {M : Nat} {z : mG} {a1 : Int32} {a2 : Int32} {a3 : Int32} {s : mG} (hM : sub 20660353362554697809920 M) (h : KB M z s) : pk (F_X11_say a1 a2 a3 s) (fun τ => KB M z τ.2) := by
  unfold F_X11_say
  refine pk_b1 pk_top (fun _ _ => ?_)
  refine pk_ite ?_ ?_
  · exact (W_X11_say_33 (sub_tr (by decide +kernel) hM) h)
  · refine pk_b1 pk_top (fun _ _ => ?_)
    refine pk_ite ?_ ?_
    · exact (W_X11_say_33 (sub_tr (by decide +kernel) hM) h)
    · refine pk_b1 pk_top (fun _ _ => ?_)
      refine pk_ite ?_ ?_
      · exact (W_X11_say_33 (sub_tr (by decide +kernel) hM) h)
      · refine pk_b2 (W_X0_saysIn (sub_tr (by decide +kernel) hM) h) (fun _ s_1 (h_2 : KB M z s_1) => ?_)
        refine pk_ite ?_ ?_
        · exact pk_some h_2
        · exact pk_some h_2
theorem W_X11_said_23 {M : Nat} {z : mG} {y1 : Int32} {s : mG} (hM : sub 20660353362554697809920 M) (h : KB M z s) : pk (F_X11_said_23 y1 s) (fun τ => KB M z τ.2) := by
  unfold F_X11_said_23
  refine pk_b2 (W_X0_saidToAll (sub_tr (by decide +kernel) hM) h) (fun _ s_1 (h_2 : KB M z s_1) => ?_)
  exact pk_some h_2
theorem W_X11_said {M : Nat} {z : mG} {a1 : Int32} {s : mG} (hM : sub 20660353362554697809920 M) (h : KB M z s) : pk (F_X11_said a1 s) (fun τ => KB M z τ.2) := by
  unfold F_X11_said
  refine pk_b1 pk_top (fun _ _ => ?_)
  refine pk_ite ?_ ?_
  · exact pk_some h
  · refine pk_ite ?_ ?_
    · exact (W_X11_said_23 (sub_tr (by decide +kernel) hM) h)
    · exact (W_X11_said_23 (sub_tr (by decide +kernel) hM) h)
theorem W_X11_many {M : Nat} {z : mG} {a1 : Int32} {s : mG} (hM : sub 133997148951426182938624 M) (h : KB M z s) : pk (F_X11_many a1 s) (fun τ => KB M z τ.2) := by
  unfold F_X11_many
  refine pk_ite ?_ ?_
  · refine pk_b2 (W_X0_sumOfSure (sub_tr (by decide +kernel) hM) h) (fun _ s_1 (h_2 : KB M z s_1) => ?_)
    exact pk_some h_2
  · refine pk_ite ?_ ?_
    · refine pk_b2 (W_X0_likeliest (sub_tr (by decide +kernel) hM) h) (fun _ s_3 (h_4 : KB M z s_3) => ?_)
      exact pk_some h_4
    · refine pk_ite ?_ ?_
      · refine pk_b2 (W_X0_likeliest (sub_tr (by decide +kernel) hM) h) (fun _ s_5 (h_6 : KB M z s_5) => ?_)
        exact pk_some h_6
      · exact pk_some h
theorem W_X11_span_20 {M : Nat} {z : mG} {s : mG} (hM : sub 0 M) (h : KB M z s) : pk (F_X11_span_20 s) (fun τ => KB M z τ.2) := by
  unfold F_X11_span_20
  exact pk_some h
theorem W_X11_span_37 {M : Nat} {z : mG} {y1 : Int32} {y2 : Int32} {s : mG} (hM : sub 133997148951426182938624 M) (h : KB M z s) : pk (F_X11_span_37 y1 y2 s) (fun τ => KB M z τ.2) := by
  unfold F_X11_span_37
  refine pk_b2 (W_X0_spanEdge (sub_tr (by decide +kernel) hM) h) (fun _ s_1 (h_2 : KB M z s_1) => ?_)
  exact pk_some h_2
theorem W_X11_span {M : Nat} {z : mG} {a1 : Int32} {a2 : Int32} {s : mG} (hM : sub 133997148951426182938624 M) (h : KB M z s) : pk (F_X11_span a1 a2 s) (fun τ => KB M z τ.2) := by
  unfold F_X11_span
  refine pk_b1 pk_top (fun _ _ => ?_)
  refine pk_ite ?_ ?_
  · exact (W_X11_span_20 (sub_tr (by decide +kernel) hM) h)
  · refine pk_b1 pk_top (fun _ _ => ?_)
    refine pk_ite ?_ ?_
    · exact (W_X11_span_20 (sub_tr (by decide +kernel) hM) h)
    · refine pk_ite ?_ ?_
      · exact (W_X11_span_37 (sub_tr (by decide +kernel) hM) h)
      · exact (W_X11_span_37 (sub_tr (by decide +kernel) hM) h)
theorem W_X11_counted_21 {M : Nat} {z : mG} {s : mG} (hM : sub 0 M) (h : KB M z s) : pk (F_X11_counted_21 s) (fun τ => KB M z τ.2) := by
  unfold F_X11_counted_21
  exact pk_some h
theorem W_X11_counted {M : Nat} {z : mG} {a1 : Int32} {a2 : Int32} {s : mG} (hM : sub 133997148951426182938624 M) (h : KB M z s) : pk (F_X11_counted a1 a2 s) (fun τ => KB M z τ.2) := by
  unfold F_X11_counted
  refine pk_b1 pk_top (fun _ _ => ?_)
  refine pk_ite ?_ ?_
  · exact (W_X11_counted_21 (sub_tr (by decide +kernel) hM) h)
  · refine pk_b1 pk_top (fun _ _ => ?_)
    refine pk_ite ?_ ?_
    · exact (W_X11_counted_21 (sub_tr (by decide +kernel) hM) h)
    · refine pk_b2 (W_X0_amongCounted (sub_tr (by decide +kernel) hM) h) (fun _ s_1 (h_2 : KB M z s_1) => ?_)
      exact pk_some h_2
theorem W_X11_empty {M : Nat} {z : mG} {a1 : Int32} {s : mG} (hM : sub 96218217088469021229056 M) (h : KB M z s) : pk (F_X11_empty a1 s) (fun τ => KB M z τ.2) := by
  unfold F_X11_empty
  refine pk_b1 pk_top (fun _ _ => ?_)
  refine pk_ite ?_ ?_
  · exact pk_some h
  · refine pk_b2 (W_X0_emptyChance (sub_tr (by decide +kernel) hM) h) (fun _ s_1 (h_2 : KB M z s_1) => ?_)
    exact pk_some h_2
theorem W_X11_pair_23 {M : Nat} {z : mG} {s : mG} (hM : sub 0 M) (h : KB M z s) : pk (F_X11_pair_23 s) (fun τ => KB M z τ.2) := by
  unfold F_X11_pair_23
  exact pk_some h
theorem W_X11_pair {M : Nat} {z : mG} {a1 : Int32} {s : mG} (hM : sub 96218217088469021229056 M) (h : KB M z s) : pk (F_X11_pair a1 s) (fun τ => KB M z τ.2) := by
  unfold F_X11_pair
  refine pk_b1 pk_top (fun _ _ => ?_)
  refine pk_ite ?_ ?_
  · exact (W_X11_pair_23 (sub_tr (by decide +kernel) hM) h)
  · refine pk_ite ?_ ?_
    · refine pk_b2 (W_X0_bestPair (sub_tr (by decide +kernel) hM) h) (fun _ s_1 (h_2 : KB M z s_1) => ?_)
      exact pk_some h_2
    · exact (W_X11_pair_23 (sub_tr (by decide +kernel) hM) h)
theorem W_X11_lack {M : Nat} {z : mG} {a1 : Int32} {s : mG} (hM : sub 96218217088469021229056 M) (h : KB M z s) : pk (F_X11_lack a1 s) (fun τ => KB M z τ.2) := by
  unfold F_X11_lack
  refine pk_ite ?_ ?_
  · refine pk_b1 pk_top (fun _ _ => ?_)
    refine pk_b1 pk_top (fun _ _ => ?_)
    exact pk_some h
  · refine pk_ite ?_ ?_
    · refine pk_b2 (W_X0_keylessOut (sub_tr (by decide +kernel) hM) h) (fun _ s_1 (h_2 : KB M z s_1) => ?_)
      exact pk_some h_2
    · refine pk_ite ?_ ?_
      · refine pk_b1 pk_top (fun _ _ => ?_)
        refine pk_b1 pk_top (fun _ _ => ?_)
        refine pk_b1 pk_top (fun _ _ => ?_)
        exact pk_some h
      · exact pk_some h
theorem W_X11_visit_20 {M : Nat} {z : mG} {s : mG} (hM : sub 0 M) (h : KB M z s) : pk (F_X11_visit_20 s) (fun τ => KB M z τ.2) := by
  unfold F_X11_visit_20
  exact pk_some h
theorem W_X11_visit_45 {M : Nat} {z : mG} {y1 : Int32} {y2 : Int32} {y3 : Int32} {s : mG} (hM : sub 1770887431076116955136 M) (h : KB M z s) : pk (F_X11_visit_45 y1 y2 y3 s) (fun τ => KB M z τ.2) := by
  unfold F_X11_visit_45
  refine pk_b2 (W_X1_bestVisit (sub_tr (by decide +kernel) hM) h) (fun _ s_1 (h_2 : KB M z s_1) => ?_)
  exact pk_some h_2
theorem W_X11_visit {M : Nat} {z : mG} {a1 : Int32} {a2 : Int32} {s : mG} (hM : sub 20660353362554697809920 M) (h : KB M z s) : pk (F_X11_visit a1 a2 s) (fun τ => KB M z τ.2) := by
  unfold F_X11_visit
  refine pk_b1 pk_top (fun _ _ => ?_)
  refine pk_ite ?_ ?_
  · exact (W_X11_visit_20 (sub_tr (by decide +kernel) hM) h)
  · refine pk_b1 pk_top (fun _ _ => ?_)
    refine pk_ite ?_ ?_
    · exact (W_X11_visit_20 (sub_tr (by decide +kernel) hM) h)
    · refine pk_b2 (W_X0_sureOf (sub_tr (by decide +kernel) hM) h) (fun _ s_1 (h_2 : KB M z s_1) => ?_)
      refine pk_ite ?_ ?_
      · exact (W_X11_visit_45 (sub_tr (by decide +kernel) hM) h_2)
      · exact (W_X11_visit_45 (sub_tr (by decide +kernel) hM) h_2)
theorem W_X11_expect {M : Nat} {z : mG} {s : mG} (hM : sub 1770887431076116955136 M) (h : KB M z s) : pk (F_X11_expect s) (fun τ => KB M z τ.2) := by
  unfold F_X11_expect
  refine pk_b2 (W_X1_movesNow (sub_tr (by decide +kernel) hM) h) (fun _ s_1 (h_2 : KB M z s_1) => ?_)
  exact pk_some h_2
theorem W_X11_busy {M : Nat} {z : mG} {a1 : Int32} {s : mG} (hM : sub 1770887431076116955136 M) (h : KB M z s) : pk (F_X11_busy a1 s) (fun τ => KB M z τ.2) := by
  unfold F_X11_busy
  refine pk_ite ?_ ?_
  · refine pk_b2 (W_X1_busiestClock (sub_tr (by decide +kernel) hM) h) (fun _ s_1 (h_2 : KB M z s_1) => ?_)
    exact pk_some h_2
  · refine pk_ite ?_ ?_
    · refine pk_b2 (W_X1_busiestClock (sub_tr (by decide +kernel) hM) h) (fun _ s_3 (h_4 : KB M z s_3) => ?_)
      refine pk_b2 (W_X1_movesAt (sub_tr (by decide +kernel) hM) h_4) (fun _ s_5 (h_6 : KB M z s_5) => ?_)
      exact pk_some h_6
    · exact pk_some h
theorem W_X11_tagCost_32 {M : Nat} {z : mG} {s : mG} (hM : sub 0 M) (h : KB M z s) : pk (F_X11_tagCost_32 s) (fun τ => KB M z τ.2) := by
  unfold F_X11_tagCost_32
  exact pk_some h
theorem W_X11_tagCost {M : Nat} {z : mG} {a1 : Int32} {a2 : Int32} {a3 : Int32} {s : mG} (hM : sub 1770887431076116955136 M) (h : KB M z s) : pk (F_X11_tagCost a1 a2 a3 s) (fun τ => KB M z τ.2) := by
  unfold F_X11_tagCost
  refine pk_b1 pk_top (fun _ _ => ?_)
  refine pk_ite ?_ ?_
  · exact (W_X11_tagCost_32 (sub_tr (by decide +kernel) hM) h)
  · refine pk_b1 pk_top (fun _ _ => ?_)
    refine pk_ite ?_ ?_
    · exact (W_X11_tagCost_32 (sub_tr (by decide +kernel) hM) h)
    · refine pk_b1 pk_top (fun _ _ => ?_)
      refine pk_ite ?_ ?_
      · exact (W_X11_tagCost_32 (sub_tr (by decide +kernel) hM) h)
      · refine pk_b2 (W_X1_costOfTag (sub_tr (by decide +kernel) hM) h) (fun _ s_1 (h_2 : KB M z s_1) => ?_)
        exact pk_some h_2
theorem W_X11_tag_22 {M : Nat} {z : mG} {s : mG} (hM : sub 0 M) (h : KB M z s) : pk (F_X11_tag_22 s) (fun τ => KB M z τ.2) := by
  unfold F_X11_tag_22
  exact pk_some h
theorem W_X11_tag {M : Nat} {z : mG} {a1 : Int32} {a2 : Int32} {s : mG} (hM : sub 1770887431076116955136 M) (h : KB M z s) : pk (F_X11_tag a1 a2 s) (fun τ => KB M z τ.2) := by
  unfold F_X11_tag
  refine pk_b1 pk_top (fun _ _ => ?_)
  refine pk_ite ?_ ?_
  · exact (W_X11_tag_22 (sub_tr (by decide +kernel) hM) h)
  · refine pk_b1 pk_top (fun _ _ => ?_)
    refine pk_ite ?_ ?_
    · exact (W_X11_tag_22 (sub_tr (by decide +kernel) hM) h)
    · refine pk_b2 (W_X1_bestTag (sub_tr (by decide +kernel) hM) h) (fun _ s_1 (h_2 : KB M z s_1) => ?_)
      exact pk_some h_2
theorem W_X11_stands_26 {M : Nat} {z : mG} {s : mG} (hM : sub 0 M) (h : KB M z s) : pk (F_X11_stands_26 s) (fun τ => KB M z τ.2) := by
  unfold F_X11_stands_26
  exact pk_some h
theorem W_X11_stands_28 {M : Nat} {z : mG} {x1 : Int32} {x2 : Int32} {s : mG} (hM : sub 4535242710985935522103296 M) (h : KB M z s) : pk (F_X11_stands_28 x1 x2 s) (fun τ => KB M z τ.2) := by
  unfold F_X11_stands_28
  refine pk_b1 (W_X1_plan (sub_tr (by decide +kernel) hM) h) (fun s_1 (h_2 : KB M z s_1) => ?_)
  refine pk_ite ?_ ?_
  · refine pk_b1 pk_top (fun _ _ => ?_)
    exact pk_some h_2
  · refine pk_b1 pk_top (fun _ _ => ?_)
    exact pk_some h_2
theorem W_X11_stands {M : Nat} {z : mG} {a1 : Int32} {a2 : Int32} {s : mG} (hM : sub 4535242710985935522103296 M) (h : KB M z s) : pk (F_X11_stands a1 a2 s) (fun τ => KB M z τ.2) := by
  unfold F_X11_stands
  refine pk_b1 pk_top (fun _ _ => ?_)
  refine pk_ite ?_ ?_
  · exact (W_X11_stands_26 (sub_tr (by decide +kernel) hM) h)
  · refine pk_ite ?_ ?_
    · exact (W_X11_stands_28 (sub_tr (by decide +kernel) hM) h)
    · refine pk_b1 pk_top (fun _ _ => ?_)
      refine pk_ite ?_ ?_
      · exact (W_X11_stands_26 (sub_tr (by decide +kernel) hM) h)
      · exact (W_X11_stands_28 (sub_tr (by decide +kernel) hM) h)
theorem W_X11_carries {M : Nat} {z : mG} {s : mG} (hM : sub 1770887431076116955136 M) (h : KB M z s) : pk (F_X11_carries s) (fun τ => KB M z τ.2) := by
  unfold F_X11_carries
  refine pk_b2 (W_X1_likeliestToCarry (sub_tr (by decide +kernel) hM) h) (fun _ s_1 (h_2 : KB M z s_1) => ?_)
  exact pk_some h_2
theorem W_X11_away_32 {M : Nat} {z : mG} {s : mG} (hM : sub 0 M) (h : KB M z s) : pk (F_X11_away_32 s) (fun τ => KB M z τ.2) := by
  unfold F_X11_away_32
  exact pk_some h
theorem W_X11_away {M : Nat} {z : mG} {a1 : Int32} {a2 : Int32} {s : mG} (hM : sub 1770887431076116955136 M) (h : KB M z s) : pk (F_X11_away a1 a2 s) (fun τ => KB M z τ.2) := by
  unfold F_X11_away
  refine pk_b1 pk_top (fun _ _ => ?_)
  refine pk_ite ?_ ?_
  · exact (W_X11_away_32 (sub_tr (by decide +kernel) hM) h)
  · refine pk_b1 pk_top (fun _ _ => ?_)
    refine pk_ite ?_ ?_
    · exact (W_X11_away_32 (sub_tr (by decide +kernel) hM) h)
    · refine pk_b1 pk_top (fun _ _ => ?_)
      refine pk_ite ?_ ?_
      · exact (W_X11_away_32 (sub_tr (by decide +kernel) hM) h)
      · refine pk_b2 (W_X1_stillOut (sub_tr (by decide +kernel) hM) h) (fun _ s_1 (h_2 : KB M z s_1) => ?_)
        exact pk_some h_2
theorem W_X11_knocks {M : Nat} {z : mG} {a1 : Int32} {s : mG} (hM : sub 19363473467196621493108736 M) (h : KB M z s) : pk (F_X11_knocks a1 s) (fun τ => KB M z τ.2) := by
  unfold F_X11_knocks
  refine pk_b2 (W_X9_roomAt (sub_tr (by decide +kernel) hM) h) (fun _ s_1 (h_2 : KB M z s_1) => ?_)
  exact pk_some h_2
theorem W_X11_fire_87 {M : Nat} {z : mG} {s : mG} (hM : sub 0 M) (h : KB M z s) : pk (F_X11_fire_87 s) (fun τ => KB M z τ.2) := by
  unfold F_X11_fire_87
  exact pk_some h
theorem W_X11_fire {M : Nat} {z : mG} {a1 : Int32} {a2 : Int32} {s : mG} (hM : sub 280491450503956523229642752 M) (h : KB M z s) : pk (F_X11_fire a1 a2 s) (fun τ => KB M z τ.2) := by
  unfold F_X11_fire
  refine pk_b1 pk_top (fun _ _ => ?_)
  refine pk_ite ?_ ?_
  · exact pk_some h
  · refine pk_b1 (W_X9_searchFloors (sub_tr (by decide +kernel) hM) h) (fun s_1 (h_2 : KB M z s_1) => ?_)
    refine pk_ite ?_ ?_
    · extract_lets +onlyGivenNames v_3
      clear_value v_3
      exact pk_some h_2
    · refine pk_ite ?_ ?_
      · exact pk_some h_2
      · refine pk_ite ?_ ?_
        · exact (W_X11_fire_87 (sub_tr (by decide +kernel) hM) h_2)
        · refine pk_ite ?_ ?_
          · exact (W_X11_fire_87 (sub_tr (by decide +kernel) hM) h_2)
          · refine pk_b1 pk_top (fun _ _ => ?_)
            exact pk_some h_2
theorem W_X12_forgets {M : Nat} {z : mG} {s : mG} (hM : sub 309485009821345068724781056 M) (h : KB M z s) : pk (F_X12_forgets s) (fun τ => KB M z τ) := by
  unfold F_X12_forgets
  extract_lets +onlyGivenNames s_1
  have h_2 : KB M z s_1 := KB_mu h (hM 88 (by decide +kernel))
  clear_value s_1
  exact pk_some h_2
theorem W_X12_state {M : Nat} {z : mG} {a1 : Int32} {s : mG} (hM : sub 928455029464035206174343168 M) (h : KB M z s) : pk (F_X12_state a1 s) (fun τ => KB M z τ.2) := by
  unfold F_X12_state
  extract_lets +onlyGivenNames s_1
  have h_2 : KB M z s_1 := KB_mu h (hM 89 (by decide +kernel))
  clear_value s_1
  refine pk_b1 (W_X12_forgets (sub_tr (by decide +kernel) hM) h_2) (fun s_3 (h_4 : KB M z s_3) => ?_)
  exact pk_some h_4
theorem W_X12_draw {M : Nat} {z : mG} {a1 : Int32} {s : mG} (hM : sub 618970019642690137449562112 M) (h : KB M z s) : pk (F_X12_draw a1 s) (fun τ => KB M z τ.2) := by
  unfold F_X12_draw
  extract_lets +onlyGivenNames s_1
  have h_2 : KB M z s_1 := KB_mu h (hM 89 (by decide +kernel))
  clear_value s_1
  refine pk_nn ?_
  extract_lets +onlyGivenNames v_3
  clear_value v_3
  exact pk_some h_2
theorem W_X12_guest_31 {M : Nat} {z : mG} {s : mG} (hM : sub 0 M) (h : KB M z s) : pk (F_X12_guest_31 s) (fun τ => KB M z τ.2) := by
  unfold F_X12_guest_31
  exact pk_some h
theorem W_X12_guest_B94 {M : Nat} {z : mG} {x3 : Int32} {x4 : Int32} {s : mG} (hM : sub 928455029464035206174343168 M) (h : KB M z s) : pk (F_X12_guest_B94 x3 x4 s) (se (fun τ => KB M z τ.2.2) (fun τ => KB M z τ.2)) := by
  unfold F_X12_guest_B94
  refine pk_ite ?_ ?_
  · extract_lets +onlyGivenNames s_1
    have h_2 : KB M z s_1 := KB_mu h (hM 89 (by decide +kernel))
    clear_value s_1
    refine pk_b1 (W_X12_forgets (sub_tr (by decide +kernel) hM) h_2) (fun s_3 (h_4 : KB M z s_3) => ?_)
    exact pk_some h_4
  · refine pk_nn ?_
    extract_lets +onlyGivenNames s_5
    have h_6 : KB M z s_5 := KB_mu h (hM 89 (by decide +kernel))
    clear_value s_5
    exact pk_some h_6
theorem W_X12_guest_L94 {M : Nat} {z : mG} {x3 : Int32} {x4 : Int32} {s : mG} (hM : sub 928455029464035206174343168 M) (h : KB M z s) : pk (F_X12_guest_L94 x3 x4 s) (fun τ => KB M z τ.2) := by
  unfold F_X12_guest_L94
  refine pk_whl (fun v => KB M z v.2.2) h (fun v hv => ?_)
  obtain ⟨y0, y1, y2⟩ := v
  exact W_X12_guest_B94 (sub_tr (by decide +kernel) hM) hv
theorem W_X12_guest {M : Nat} {z : mG} {a1 : Int32} {a2 : Int32} {s : mG} (hM : sub 928455029464035206174343168 M) (h : KB M z s) : pk (F_X12_guest a1 a2 s) (fun τ => KB M z τ.2) := by
  unfold F_X12_guest
  refine pk_b1 pk_top (fun _ _ => ?_)
  refine pk_ite ?_ ?_
  · exact (W_X12_guest_31 (sub_tr (by decide +kernel) hM) h)
  · refine pk_b1 pk_top (fun _ _ => ?_)
    refine pk_ite ?_ ?_
    · exact (W_X12_guest_31 (sub_tr (by decide +kernel) hM) h)
    · refine pk_ite ?_ ?_
      · exact (W_X12_guest_31 (sub_tr (by decide +kernel) hM) h)
      · refine pk_nn ?_
        extract_lets +onlyGivenNames s_1
        have h_2 : KB M z s_1 := KB_mu h (hM 89 (by decide +kernel))
        clear_value s_1
        refine pk_nn ?_
        extract_lets +onlyGivenNames s_3
        have h_4 : KB M z s_3 := KB_mu h_2 (hM 89 (by decide +kernel))
        clear_value s_3
        refine pk_nn ?_
        extract_lets +onlyGivenNames s_5
        have h_6 : KB M z s_5 := KB_mu h_4 (hM 89 (by decide +kernel))
        clear_value s_5
        refine pk_nn ?_
        extract_lets +onlyGivenNames s_7
        have h_8 : KB M z s_7 := KB_mu h_6 (hM 89 (by decide +kernel))
        clear_value s_7
        refine pk_nn ?_
        extract_lets +onlyGivenNames s_9
        have h_10 : KB M z s_9 := KB_mu h_8 (hM 89 (by decide +kernel))
        clear_value s_9
        exact (W_X12_guest_L94 (sub_tr (by decide +kernel) hM) h_10)
theorem W_X12_set_110 {M : Nat} {z : mG} {s : mG} (hM : sub 309485009821345068724781056 M) (h : KB M z s) : pk (F_X12_set_110 s) (fun τ => KB M z τ.2) := by
  unfold F_X12_set_110
  refine pk_b1 (W_X12_forgets (sub_tr (by decide +kernel) hM) h) (fun s_1 (h_2 : KB M z s_1) => ?_)
  exact pk_some h_2
theorem W_X12_set_92 {M : Nat} {z : mG} {s : mG} (hM : sub 0 M) (h : KB M z s) : pk (F_X12_set_92 s) (fun τ => KB M z τ.2) := by
  unfold F_X12_set_92
  exact pk_some h
theorem W_X12_set {M : Nat} {z : mG} {a1 : Int32} {a2 : Int32} {a3 : Int32} {s : mG} (hM : sub 928455029464035206174343168 M) (h : KB M z s) : pk (F_X12_set a1 a2 a3 s) (fun τ => KB M z τ.2) := by
  unfold F_X12_set
  refine pk_ite ?_ ?_
  · refine pk_b1 pk_top (fun _ _ => ?_)
    refine pk_ite ?_ ?_
    · exact pk_some h
    · extract_lets +onlyGivenNames s_1
      have h_2 : KB M z s_1 := KB_mu h (hM 89 (by decide +kernel))
      clear_value s_1
      exact (W_X12_set_110 (sub_tr (by decide +kernel) hM) h_2)
  · refine pk_ite ?_ ?_
    · refine pk_b1 pk_top (fun _ _ => ?_)
      refine pk_ite ?_ ?_
      · exact pk_some h
      · extract_lets +onlyGivenNames s_3
        have h_4 : KB M z s_3 := KB_mu h (hM 89 (by decide +kernel))
        clear_value s_3
        exact (W_X12_set_110 (sub_tr (by decide +kernel) hM) h_4)
    · refine pk_ite ?_ ?_
      · refine pk_b1 pk_top (fun _ _ => ?_)
        refine pk_ite ?_ ?_
        · exact (W_X12_set_92 (sub_tr (by decide +kernel) hM) h)
        · refine pk_b1 pk_top (fun _ _ => ?_)
          refine pk_ite ?_ ?_
          · exact (W_X12_set_92 (sub_tr (by decide +kernel) hM) h)
          · refine pk_nn ?_
            extract_lets +onlyGivenNames s_5
            have h_6 : KB M z s_5 := KB_mu h (hM 89 (by decide +kernel))
            clear_value s_5
            exact (W_X12_set_110 (sub_tr (by decide +kernel) hM) h_6)
      · exact pk_some h
theorem W_X12_feed_71 {M : Nat} {z : mG} {x1 : Int32} {x2 : Int32} {x3 : Int32} {x4 : Int32} {x5 : Int32} {x6 : Int32} {y0 : Int32} {s : mG} (hM : sub 39923566266953513865496756224 M) (h : KB M z s) : pk (F_X12_feed_71 x1 x2 x3 x4 x5 x6 y0 s) (se (fun τ => KB M z τ.2.2.2.2.2.2) (fun τ => KB M z τ.2)) := by
  unfold F_X12_feed_71
  refine pk_nn ?_
  extract_lets +onlyGivenNames s_1
  have h_2 : KB M z s_1 := KB_mu h (hM 95 (by decide +kernel))
  clear_value s_1
  extract_lets +onlyGivenNames s_3
  have h_4 : KB M z s_3 := KB_mu h_2 (hM 88 (by decide +kernel))
  clear_value s_3
  exact pk_some h_4
theorem W_X12_feed_B18 {M : Nat} {z : mG} {x1 : Int32} {x2 : Int32} {x3 : Int32} {x4 : Int32} {x5 : Int32} {x6 : Int32} {s : mG} (hM : sub 39923566266953513865496756224 M) (h : KB M z s) : pk (F_X12_feed_B18 x1 x2 x3 x4 x5 x6 s) (se (fun τ => KB M z τ.2.2.2.2.2.2) (fun τ => KB M z τ.2)) := by
  unfold F_X12_feed_B18
  refine pk_ite ?_ ?_
  · exact pk_some h
  · refine pk_ite ?_ ?_
    · refine pk_ite ?_ ?_
      · refine pk_ite ?_ ?_
        · refine pk_ite ?_ ?_
          · exact (W_X12_feed_71 (sub_tr (by decide +kernel) hM) h)
          · exact (W_X12_feed_71 (sub_tr (by decide +kernel) hM) h)
        · exact (W_X12_feed_71 (sub_tr (by decide +kernel) hM) h)
      · exact (W_X12_feed_71 (sub_tr (by decide +kernel) hM) h)
    · exact (W_X12_feed_71 (sub_tr (by decide +kernel) hM) h)
theorem W_X12_feed_L18 {M : Nat} {z : mG} {x1 : Int32} {x2 : Int32} {x3 : Int32} {x4 : Int32} {x5 : Int32} {x6 : Int32} {s : mG} (hM : sub 39923566266953513865496756224 M) (h : KB M z s) : pk (F_X12_feed_L18 x1 x2 x3 x4 x5 x6 s) (fun τ => KB M z τ.2) := by
  unfold F_X12_feed_L18
  refine pk_whl (fun v => KB M z v.2.2.2.2.2.2) h (fun v hv => ?_)
  obtain ⟨y0, y1, y2, y3, y4, y5, y6⟩ := v
  exact W_X12_feed_B18 (sub_tr (by decide +kernel) hM) hv
theorem W_X12_feed {M : Nat} {z : mG} {a1 : Int32} {a2 : Int32} {a3 : Int32} {a4 : Int32} {a5 : Int32} {s : mG} (hM : sub 39923566266953513865496756224 M) (h : KB M z s) : pk (F_X12_feed a1 a2 a3 a4 a5 s) (fun τ => KB M z τ.2) := by
  unfold F_X12_feed
  refine pk_ite ?_ ?_
  · exact (W_X12_feed_L18 (sub_tr (by decide +kernel) hM) h)
  · exact pk_some h
theorem W_X12_end {M : Nat} {z : mG} {a1 : Int32} {s : mG} (hM : sub 309485009821345068724781056 M) (h : KB M z s) : pk (F_X12_end a1 s) (fun τ => KB M z τ.2) := by
  unfold F_X12_end
  refine pk_b1 pk_top (fun _ _ => ?_)
  refine pk_ite ?_ ?_
  · exact pk_some h
  · extract_lets +onlyGivenNames s_1
    have h_2 : KB M z s_1 := KB_mu h (hM 88 (by decide +kernel))
    clear_value s_1
    exact pk_some h_2
theorem W_X12_next0_26 {M : Nat} {z : mG} {s : mG} (hM : sub 309485009821345068724781056 M) (h : KB M z s) : pk (F_X12_next0_26 s) (se (fun τ => KB M z τ) (fun τ => KB M z τ)) := by
  unfold F_X12_next0_26
  extract_lets +onlyGivenNames s_1
  have h_2 : KB M z s_1 := KB_mu h (hM 88 (by decide +kernel))
  clear_value s_1
  exact pk_some h_2
theorem W_X12_next0_303 {M : Nat} {z : mG} {y1 : Int32} {s : mG} (hM : sub 309485009821345068724781056 M) (h : KB M z s) : pk (F_X12_next0_303 y1 s) (fun τ => KB M z τ) := by
  unfold F_X12_next0_303
  extract_lets +onlyGivenNames s_1
  have h_2 : KB M z s_1 := KB_mu h (hM 88 (by decide +kernel))
  clear_value s_1
  exact pk_some h_2
theorem W_X12_next0_289 {M : Nat} {z : mG} {x1 : Int32} {y0 : Int32} {s : mG} (hM : sub 309485009821345068724781056 M) (h : KB M z s) : pk (F_X12_next0_289 x1 y0 s) (fun τ => KB M z τ) := by
  unfold F_X12_next0_289
  refine pk_ite ?_ ?_
  · exact (W_X12_next0_303 (sub_tr (by decide +kernel) hM) h)
  · exact (W_X12_next0_303 (sub_tr (by decide +kernel) hM) h)
theorem W_X12_next0_284 {M : Nat} {z : mG} {x1 : Int32} {s : mG} (hM : sub 309485009821345068724781056 M) (h : KB M z s) : pk (F_X12_next0_284 x1 s) (fun τ => KB M z τ) := by
  unfold F_X12_next0_284
  exact (W_X12_next0_289 (sub_tr (by decide +kernel) hM) h)
theorem W_X12_next0_208 {M : Nat} {z : mG} {y1 : Int32} {s : mG} (hM : sub 309485009821345068724781056 M) (h : KB M z s) : pk (F_X12_next0_208 y1 s) (fun τ => KB M z τ) := by
  unfold F_X12_next0_208
  extract_lets +onlyGivenNames s_1
  have h_2 : KB M z s_1 := KB_mu h (hM 88 (by decide +kernel))
  clear_value s_1
  exact pk_some h_2
theorem W_X12_next0_176 {M : Nat} {z : mG} {s : mG} (hM : sub 309485009821345068724781056 M) (h : KB M z s) : pk (F_X12_next0_176 s) (se (fun τ => KB M z τ) (fun τ => KB M z τ)) := by
  unfold F_X12_next0_176
  extract_lets +onlyGivenNames s_1
  have h_2 : KB M z s_1 := KB_mu h (hM 88 (by decide +kernel))
  clear_value s_1
  exact pk_some h_2
theorem W_X12_next0_B126 {M : Nat} {z : mG} {s : mG} (hM : sub 309485009821345068724781056 M) (h : KB M z s) : pk (F_X12_next0_B126 s) (se (fun τ => KB M z τ) (fun τ => KB M z τ)) := by
  unfold F_X12_next0_B126
  refine pk_b1 pk_top (fun _ _ => ?_)
  refine pk_b1 pk_top (fun _ _ => ?_)
  refine pk_ite ?_ ?_
  · refine pk_ite ?_ ?_
    · refine pk_b1r ?_
      exact (W_X12_next0_208 (sub_tr (by decide +kernel) hM) h)
    · refine pk_b1r ?_
      exact (W_X12_next0_208 (sub_tr (by decide +kernel) hM) h)
  · refine pk_ite ?_ ?_
    · exact (W_X12_next0_176 (sub_tr (by decide +kernel) hM) h)
    · refine pk_b1 pk_top (fun _ _ => ?_)
      extract_lets +onlyGivenNames s_1
      have h_2 : KB M z s_1 := KB_mu h (hM 88 (by decide +kernel))
      clear_value s_1
      exact (W_X12_next0_176 (sub_tr (by decide +kernel) hM) h_2)
theorem W_X12_next0_L126 {M : Nat} {z : mG} {s : mG} (hM : sub 309485009821345068724781056 M) (h : KB M z s) : pk (F_X12_next0_L126 s) (fun τ => KB M z τ) := by
  unfold F_X12_next0_L126
  refine pk_whl (fun v => KB M z v) h (fun v hv => ?_)
  exact W_X12_next0_B126 (sub_tr (by decide +kernel) hM) hv
theorem W_X12_next0_B76 {M : Nat} {z : mG} {s : mG} (hM : sub 309485009821345068724781056 M) (h : KB M z s) : pk (F_X12_next0_B76 s) (se (fun τ => KB M z τ) (fun τ => KB M z τ)) := by
  unfold F_X12_next0_B76
  refine pk_b1 pk_top (fun _ _ => ?_)
  refine pk_b1 pk_top (fun _ _ => ?_)
  refine pk_ite ?_ ?_
  · refine pk_b1 pk_top (fun _ _ => ?_)
    extract_lets +onlyGivenNames s_1
    have h_2 : KB M z s_1 := KB_mu h (hM 88 (by decide +kernel))
    clear_value s_1
    exact pk_some h_2
  · extract_lets +onlyGivenNames s_3
    have h_4 : KB M z s_3 := KB_mu h (hM 88 (by decide +kernel))
    clear_value s_3
    exact pk_some h_4
theorem W_X12_next0_L76 {M : Nat} {z : mG} {s : mG} (hM : sub 309485009821345068724781056 M) (h : KB M z s) : pk (F_X12_next0_L76 s) (fun τ => KB M z τ) := by
  unfold F_X12_next0_L76
  refine pk_whl (fun v => KB M z v) h (fun v hv => ?_)
  exact W_X12_next0_B76 (sub_tr (by decide +kernel) hM) hv
theorem W_X12_next0_B0 {M : Nat} {z : mG} {s : mG} (hM : sub 309485009821345068724781056 M) (h : KB M z s) : pk (F_X12_next0_B0 s) (se (fun τ => KB M z τ) (fun τ => KB M z τ)) := by
  unfold F_X12_next0_B0
  refine pk_b1 pk_top (fun _ _ => ?_)
  refine pk_ite ?_ ?_
  · exact (W_X12_next0_26 (sub_tr (by decide +kernel) hM) h)
  · refine pk_b1 pk_top (fun _ _ => ?_)
    refine pk_ite ?_ ?_
    · exact (W_X12_next0_26 (sub_tr (by decide +kernel) hM) h)
    · extract_lets +onlyGivenNames s_1
      have h_2 : KB M z s_1 := KB_mu h (hM 88 (by decide +kernel))
      clear_value s_1
      refine pk_b1 pk_top (fun _ _ => ?_)
      refine pk_ite ?_ ?_
      · extract_lets +onlyGivenNames s_3
        have h_4 : KB M z s_3 := KB_mu h_2 (hM 88 (by decide +kernel))
        clear_value s_3
        exact pk_some h_4
      · refine pk_b1 pk_top (fun _ _ => ?_)
        refine pk_ite ?_ ?_
        · refine pk_b1 pk_top (fun _ _ => ?_)
          refine pk_ite ?_ ?_
          · extract_lets +onlyGivenNames s_5
            have h_6 : KB M z s_5 := KB_mu h_2 (hM 88 (by decide +kernel))
            clear_value s_5
            refine pk_ite ?_ ?_
            · refine pk_b1r ?_
              exact (W_X12_next0_284 (sub_tr (by decide +kernel) hM) h_6)
            · refine pk_ite ?_ ?_
              · refine pk_b1r ?_
                exact (W_X12_next0_284 (sub_tr (by decide +kernel) hM) h_6)
              · refine pk_ite ?_ ?_
                · refine pk_b1r ?_
                  exact (W_X12_next0_284 (sub_tr (by decide +kernel) hM) h_6)
                · refine pk_ite ?_ ?_
                  · refine pk_b1r ?_
                    exact (W_X12_next0_284 (sub_tr (by decide +kernel) hM) h_6)
                  · refine pk_ite ?_ ?_
                    · refine pk_b1r ?_
                      exact (W_X12_next0_284 (sub_tr (by decide +kernel) hM) h_6)
                    · refine pk_ite ?_ ?_
                      · refine pk_b1r ?_
                        exact (W_X12_next0_284 (sub_tr (by decide +kernel) hM) h_6)
                      · refine pk_ite ?_ ?_
                        · refine pk_b1r ?_
                          exact (W_X12_next0_284 (sub_tr (by decide +kernel) hM) h_6)
                        · refine pk_ite ?_ ?_
                          · refine pk_b1r ?_
                            exact (W_X12_next0_284 (sub_tr (by decide +kernel) hM) h_6)
                          · refine pk_ite ?_ ?_
                            · refine pk_b1r ?_
                              exact (W_X12_next0_284 (sub_tr (by decide +kernel) hM) h_6)
                            · refine pk_ite ?_ ?_
                              · refine pk_b1r ?_
                                exact (W_X12_next0_284 (sub_tr (by decide +kernel) hM) h_6)
                              · refine pk_b1r ?_
                                exact (W_X12_next0_289 (sub_tr (by decide +kernel) hM) h_6)
          · extract_lets +onlyGivenNames s_7
            have h_8 : KB M z s_7 := KB_mu h_2 (hM 88 (by decide +kernel))
            clear_value s_7
            refine pk_b1r ?_
            exact (W_X12_next0_L126 (sub_tr (by decide +kernel) hM) h_8)
        · refine pk_b1r ?_
          exact (W_X12_next0_L76 (sub_tr (by decide +kernel) hM) h_2)
theorem W_X12_next0_L0 {M : Nat} {z : mG} {s : mG} (hM : sub 309485009821345068724781056 M) (h : KB M z s) : pk (F_X12_next0_L0 s) (fun τ => KB M z τ) := by
  unfold F_X12_next0_L0
  refine pk_whl (fun v => KB M z v) h (fun v hv => ?_)
  exact W_X12_next0_B0 (sub_tr (by decide +kernel) hM) hv
theorem W_X12_next0 {M : Nat} {z : mG} {s : mG} (hM : sub 309485009821345068724781056 M) (h : KB M z s) : pk (F_X12_next0 s) (fun τ => KB M z τ) := by
  unfold F_X12_next0
  exact (W_X12_next0_L0 (sub_tr (by decide +kernel) hM) h)
theorem W_X12_bad {M : Nat} {z : mG} {a1 : Int32} {s : mG} (hM : sub 309485009821345068724781056 M) (h : KB M z s) : pk (F_X12_bad a1 s) (fun τ => KB M z τ.2) := by
  unfold F_X12_bad
  extract_lets +onlyGivenNames s_1
  have h_2 : KB M z s_1 := KB_mu h (hM 88 (by decide +kernel))
  clear_value s_1
  extract_lets +onlyGivenNames s_3
  have h_4 : KB M z s_3 := KB_mu h_2 (hM 88 (by decide +kernel))
  clear_value s_3
  exact pk_some h_4
theorem W_X12_need {M : Nat} {z : mG} {a1 : Int32} {s : mG} (hM : sub 309485009821345068724781056 M) (h : KB M z s) : pk (F_X12_need a1 s) (fun τ => KB M z τ.2) := by
  unfold F_X12_need
  refine pk_ite ?_ ?_
  · refine pk_b1 (W_X12_next0 (sub_tr (by decide +kernel) hM) h) (fun s_1 (h_2 : KB M z s_1) => ?_)
    exact pk_some h_2
  · refine pk_b2 (W_X12_bad (sub_tr (by decide +kernel) hM) h) (fun _ s_3 (h_4 : KB M z s_3) => ?_)
    refine pk_pp ?_
    exact pk_some h_4
theorem W_X12_lay {M : Nat} {z : mG} {a1 : Int32} {a2 : Int32} {s : mG} (hM : sub 10213005324104387267917774848 M) (h : KB M z s) : pk (F_X12_lay a1 a2 s) (fun τ => KB M z τ) := by
  unfold F_X12_lay
  refine pk_nn ?_
  extract_lets +onlyGivenNames s_1
  have h_2 : KB M z s_1 := KB_mu h (hM 93 (by decide +kernel))
  clear_value s_1
  refine pk_nn ?_
  extract_lets +onlyGivenNames s_3
  have h_4 : KB M z s_3 := KB_mu h_2 (hM 93 (by decide +kernel))
  clear_value s_3
  extract_lets +onlyGivenNames s_5
  have h_6 : KB M z s_5 := KB_mu h_4 (hM 88 (by decide +kernel))
  clear_value s_5
  exact pk_some h_6
theorem W_X12_opens {M : Nat} {z : mG} {s : mG} (hM : sub 309485009821345068724781056 M) (h : KB M z s) : pk (F_X12_opens s) (fun τ => KB M z τ.2) := by
  unfold F_X12_opens
  refine pk_ite ?_ ?_
  · refine pk_b2 (W_X12_bad (sub_tr (by decide +kernel) hM) h) (fun _ s_1 (h_2 : KB M z s_1) => ?_)
    refine pk_pp ?_
    exact pk_some h_2
  · extract_lets +onlyGivenNames s_3
    have h_4 : KB M z s_3 := KB_mu h (hM 88 (by decide +kernel))
    clear_value s_3
    refine pk_b1 (W_X12_next0 (sub_tr (by decide +kernel) hM) h_4) (fun s_5 (h_6 : KB M z s_5) => ?_)
    exact pk_some h_6
theorem W_X12_unit_46 {M : Nat} {z : mG} {y1 : Int32} {s : mG} (hM : sub 10213005324104387267917774848 M) (h : KB M z s) : pk (F_X12_unit_46 y1 s) (fun τ => KB M z τ.2) := by
  unfold F_X12_unit_46
  refine pk_b1 (W_X12_lay (sub_tr (by decide +kernel) hM) h) (fun s_1 (h_2 : KB M z s_1) => ?_)
  refine pk_b1 (W_X12_next0 (sub_tr (by decide +kernel) hM) h_2) (fun s_3 (h_4 : KB M z s_3) => ?_)
  exact pk_some h_4
theorem W_X12_unit_30 {M : Nat} {z : mG} {x1 : Int32} {s : mG} (hM : sub 10213005324104387267917774848 M) (h : KB M z s) : pk (F_X12_unit_30 x1 s) (fun τ => KB M z τ.2) := by
  unfold F_X12_unit_30
  refine pk_ite ?_ ?_
  · exact (W_X12_unit_46 (sub_tr (by decide +kernel) hM) h)
  · exact (W_X12_unit_46 (sub_tr (by decide +kernel) hM) h)
theorem W_X12_unit {M : Nat} {z : mG} {s : mG} (hM : sub 10213005324104387267917774848 M) (h : KB M z s) : pk (F_X12_unit s) (fun τ => KB M z τ.2) := by
  unfold F_X12_unit
  refine pk_b1 pk_top (fun _ _ => ?_)
  refine pk_ite ?_ ?_
  · exact (W_X12_unit_30 (sub_tr (by decide +kernel) hM) h)
  · refine pk_ite ?_ ?_
    · refine pk_b2 (W_X12_bad (sub_tr (by decide +kernel) hM) h) (fun _ s_1 (h_2 : KB M z s_1) => ?_)
      refine pk_pp ?_
      exact pk_some h_2
    · exact (W_X12_unit_30 (sub_tr (by decide +kernel) hM) h)
theorem W_X12_product_112 {M : Nat} {z : mG} {s : mG} (hM : sub 0 M) (h : KB M z s) : pk (F_X12_product_112 s) (se (fun τ => KB M z τ) (fun τ => KB M z τ.2)) := by
  unfold F_X12_product_112
  exact pk_some h
theorem W_X12_product_44 {M : Nat} {z : mG} {y0 : Int32} {s : mG} (hM : sub 10213005324104387267917774848 M) (h : KB M z s) : pk (F_X12_product_44 y0 s) (se (fun τ => KB M z τ) (fun τ => KB M z τ.2)) := by
  unfold F_X12_product_44
  refine pk_b1 (W_X12_next0 (sub_tr (by decide +kernel) hM) h) (fun s_1 (h_2 : KB M z s_1) => ?_)
  refine pk_ite ?_ ?_
  · refine pk_b2 (W_X12_unit (sub_tr (by decide +kernel) hM) h_2) (fun _ s_3 (h_4 : KB M z s_3) => ?_)
    refine pk_ite ?_ ?_
    · exact pk_some h_4
    · refine pk_b1 (W_X12_lay (sub_tr (by decide +kernel) hM) h_4) (fun s_5 (h_6 : KB M z s_5) => ?_)
      exact (W_X12_product_112 (sub_tr (by decide +kernel) hM) h_6)
  · refine pk_ite ?_ ?_
    · refine pk_ite ?_ ?_
      · refine pk_b2 (W_X12_bad (sub_tr (by decide +kernel) hM) h_2) (fun _ s_7 (h_8 : KB M z s_7) => ?_)
        refine pk_pp ?_
        exact pk_some h_8
      · refine pk_b1 (W_X12_next0 (sub_tr (by decide +kernel) hM) h_2) (fun s_9 (h_10 : KB M z s_9) => ?_)
        refine pk_b1 (W_X12_lay (sub_tr (by decide +kernel) hM) h_10) (fun s_11 (h_12 : KB M z s_11) => ?_)
        exact (W_X12_product_112 (sub_tr (by decide +kernel) hM) h_12)
    · refine pk_b2 (W_X12_bad (sub_tr (by decide +kernel) hM) h_2) (fun _ s_13 (h_14 : KB M z s_13) => ?_)
      refine pk_pp ?_
      exact pk_some h_14
end
