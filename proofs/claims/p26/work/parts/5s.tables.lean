noncomputable section
/-! THE SHAPES OF THE TABLES that a text is read into stay -/
def TL : List (Nat × Nat × Nat) := [(6, 4, 16), (8, 1, 400), (10, 2, 6), (12, 4, 12), (23, 4, 16), (25, 1, 400), (27, 2, 6), (29, 4, 12), (56, 4, 16), (58, 1, 400), (60, 2, 6), (62, 4, 12), (65, 3, 401)]
def CTs (s : mG) : Prop := ∀ p ∈ TL, TS p.1 p.2.1 p.2.2 s
theorem TL_b : ∀ p ∈ TL, p.2.2 ≤ 401 := by decide
theorem CT_rows {s s' : mG} (h : CTs s) (r : ∀ p ∈ TL, s'.1 p.1 = s.1 p.1) : CTs s' := fun p hp => TS_row (h p hp) (r p hp)
theorem CT_mu {i k : Nat} {v : Int32} {s : mG} (h : CTs s) (d : (∀ p ∈ TL, p.1 ≠ i) ∨ (k ≠ 0 ∧ k ≠ 1 ∧ k ≠ 3)) : CTs (mu s.1 i k v, s.2) := fun p hp => by
  obtain ⟨a0, a1, n, hn, a3⟩ := h p hp
  have e : ∀ c, c = 0 ∨ c = 1 ∨ c = 3 → mu s.1 i k v p.1 c = s.1 p.1 c := fun c hc => mu_cell (d.elim (fun q => Or.inl (q p hp)) (fun q => Or.inr (by omega)))
  exact ⟨(e 0 (by omega)).trans a0, (e 1 (by omega)).trans a1, n, hn, (e 3 (by omega)).trans a3⟩
theorem CT_put3 {t : Nat} {v : Int32} {s : mG} (h : CTs s) (hv : ∀ p ∈ TL, p.1 = t → ∃ n, n ≤ p.2.2 ∧ v = cn n) : CTs (mu s.1 t 3 v, s.2) := fun p hp => by
  obtain ⟨a0, a1, n, hn, a3⟩ := h p hp
  by_cases e : p.1 = t
  · obtain ⟨m, hm, em⟩ := hv p hp e
    refine ⟨(mu_cell (Or.inr (by decide))).trans a0, (mu_cell (Or.inr (by decide))).trans a1, m, hm, ?_⟩
    show mu s.1 t 3 v p.1 3 = cn m
    rw [e, mu_same, em]
  · exact ⟨(mu_cell (Or.inl e)).trans a0, (mu_cell (Or.inl e)).trans a1, n, hn, (mu_cell (Or.inl e)).trans a3⟩
theorem CT_up {t : Nat} {s : mG} (h : CTs s) (hl : s.1 t 3 < s.1 t 0) : CTs (mu s.1 t 3 (s.1 t 3 + ci 1), s.2) := by
  refine CT_put3 h (fun p hp e => ?_)
  obtain ⟨a0, a1, n, hn, a3⟩ := h p hp
  have hb := TL_b p hp
  rw [← e, a0, a3] at hl
  have hl := (cn_lt (by omega) (by omega)).mp hl
  rw [← e, a3]
  exact ⟨n + 1, by omega, cnu (by omega)⟩
theorem Z_X10_add {t : Nat} {s : mG} (h : CTs s) : pk (F_X10_add t s) (fun τ => CTs τ.2) := by
  unfold F_X10_add
  refine pk_b1 (P := fun v => v = 0 → s.1 t 3 < s.1 t 0) ?_ (fun v hv => ?_)
  · unfold F_X10_isFull
    by_cases q : s.1 t 3 < s.1 t 0
    · rw [if_pos q]; exact pk_some (fun _ => q)
    · rw [if_neg q]; exact pk_some (fun e => absurd e c1n0)
  · by_cases q : v = 0
    · rw [if_pos q]; exact pk_some (CT_up h (hv q))
    · rw [if_neg q]; exact pk_some h
theorem Z_X10_clear {t : Nat} {s : mG} (h : CTs s) : pk (F_X10_clear t s) CTs := by
  unfold F_X10_clear
  exact pk_some (CT_put3 h (fun p hp e => ⟨0, Nat.zero_le _, rfl⟩))
theorem Z_X10_put {t : Nat} {a b c : Int32} {s : mG} (ha : ∀ p ∈ TL, p.1 ≠ t + 1) (h : CTs s) : pk (F_X10_put t a b c s) CTs := fun s' e => by
  obtain ⟨u, h1, h2, h3⟩ := X10_put_tot t s a b c
  rw [h1] at e
  exact Option.some.inj e ▸ CT_rows h (fun p hp => h3 p.1 (ha p hp))
theorem Z_X10_push {t : Nat} {a : Int32} {s : mG} (ha : ∀ p ∈ TL, p.1 ≠ t + 1) (h : CTs s) : pk (F_X10_push t a s) CTs := by
  unfold F_X10_push
  by_cases q : s.1 t 0 ≤ s.1 t 3
  · rw [if_pos q]; exact pk_some h
  · rw [if_neg q]
    dsimp only
    have h2 : CTs (mu s.1 t 3 (s.1 t 3 + ci 1), s.2) := CT_up h (Int32.not_le.mp q)
    exact pk_b1 (Z_X10_put ha h2) (fun _ h3 => pk_some h3)
theorem V_copyR {t a : Nat} {s : mG} : pk (F_X10_copyFrom t a s) (fun s' => (∀ i, i ≠ t → i ≠ t + 1 → s'.1 i = s.1 i) ∧ s'.1 t = mu s.1 t 3 (imin (s.1 a 3) (s.1 t 0)) t) := by
  unfold F_X10_copyFrom
  extract_lets s1 v2
  have qr : ∀ i, i ≠ t + 1 → s1.1 i = s1.1 i := fun i _ => rfl
  have q0 : ∀ i, i ≠ t → s1.1 i = s.1 i := fun i hi => mu_row hi
  have qt : s1.1 t = mu s.1 t 3 (imin (s.1 a 3) (s.1 t 0)) t := rfl
  clear_value v2 s1
  unfold F_X10_copyFrom_L27
  refine pk_whl (fun v => ∀ i, i ≠ t + 1 → v.2.2.1 i = s1.1 i) qr (fun v hv => ?_)
  obtain ⟨x2, x3, u⟩ := v
  have hv : ∀ i, i ≠ t + 1 → u.1 i = s1.1 i := hv
  have fin : (∀ i, i ≠ t → i ≠ t + 1 → u.1 i = s.1 i) ∧ u.1 t = mu s.1 t 3 (imin (s.1 a 3) (s.1 t 0)) t := ⟨fun i h1 h2 => (hv i h2).trans (q0 i h1), (hv t (by omega)).trans qt⟩
  unfold F_X10_copyFrom_B27
  refine pk_ite (pk_some fin) (pk_ite (pk_some fin) (pk_ite (pk_some fin) (pk_nn (pk_nn ?_))))
  exact pk_some (show ∀ i, i ≠ t + 1 → (mu u.1 (t + 1) _ _, u.2).1 i = s1.1 i from fun i h2 => (mu_row h2).trans (hv i h2))
theorem imin_cn {a b : Nat} (ha : a < 2147483648) (hb : b < 2147483648) : imin (cn a) (cn b) = cn (min a b) := by
  unfold imin
  by_cases h : a ≤ b
  · rw [Nat.min_eq_left h]
    by_cases q : cn a ≤ cn b
    · first | rw [if_pos q] | (rw [if_neg (fun e => absurd ((cn_lt hb ha).mp e) (by omega))])
    · exact absurd ((cn_le ha hb).mpr h) q
  · rw [Nat.min_eq_right (by omega)]
    first | rw [if_neg (fun e => h ((cn_le ha hb).mp e))] | rw [if_pos ((cn_lt hb ha).mpr (by omega))]
theorem Z_X10_copyFrom {t a : Nat} {s : mG} (ha : ∀ p ∈ TL, p.1 ≠ t + 1) (hs : ∀ p ∈ TL, p.1 = t → ∃ q ∈ TL, q.1 = a) (h : CTs s) : pk (F_X10_copyFrom t a s) CTs := fun s' e => by
  obtain ⟨r, rt⟩ := V_copyR s' e
  have h1 : CTs (mu s.1 t 3 (imin (s.1 a 3) (s.1 t 0)), s.2) := by
    refine CT_put3 h (fun p hp e => ?_)
    obtain ⟨a0, a1, n, hn, a3⟩ := h p hp
    obtain ⟨q, hq, eq⟩ := hs p hp e
    obtain ⟨b0, b1', m, hm, b3⟩ := h q hq
    have hb := TL_b p hp
    have hb2 := TL_b q hq
    rw [eq] at b3
    rw [e] at a0
    rw [b3, a0]
    exact ⟨min m p.2.2, Nat.min_le_right _ _, imin_cn (by omega) (by omega)⟩
  refine CT_rows h1 (fun p hp => ?_)
  by_cases e : p.1 = t
  · rw [e]; exact rt
  · exact (r p.1 e (ha p hp)).trans (mu_row e).symm
theorem Z_X11_put {a1 : Nat} {a b : Int32} {s : mG} (ha : ∀ p ∈ TL, p.1 ≠ a1) (h : CTs s) : pk (F_X11_put a1 a b s) CTs := by
  unfold F_X11_put
  refine pk_ite (pk_some h) (pk_b1 pk_top (fun _ _ => ?_))
  refine pk_ite (pk_some h) (pk_bs (fun _ => pk_nn ?_))
  exact pk_some (CT_mu h (Or.inl ha))
theorem Z_X2_forgetSeen {s : mG} (h : CTs s) : pk (F_X2_forgetSeen 1 s) CTs := fun s' e => by
  have d := W_X2_forgetSeen (M := 8) (z := s) (sub_and (by decide)) (by decide) KB_rfl s' e
  have d : KB 8 s s' := d
  exact CT_rows h (fun p hp => d p.1 (by revert p; decide +kernel))
theorem Z_X7_readText_19 {s : mG} (h : CTs s) : pk (F_X7_readText_19 s) (fun τ => CTs τ.2) := by
  unfold F_X7_readText_19
  exact pk_some h
theorem Z_X7_addToken {a1 : Int32} {a2 : Int32} {a3 : Int32} {s : mG} (h : CTs s) : pk (F_X7_addToken a1 a2 a3 s) (fun τ => CTs τ) := by
  unfold F_X7_addToken
  refine pk_b2 (Z_X10_add h) (fun _ s_1 (h_2 : CTs s_1) => ?_)
  refine pk_b1 (Z_X10_put (by decide) h_2) (fun s_3 (h_4 : CTs s_3) => ?_)
  refine pk_b1 (Z_X10_put (by decide) h_4) (fun s_5 (h_6 : CTs s_5) => ?_)
  refine pk_b1 (Z_X10_put (by decide) h_6) (fun s_7 (h_8 : CTs s_7) => ?_)
  exact pk_some h_8
theorem Z_X7_splitTape_94 {s : mG} (h : CTs s) : pk (F_X7_splitTape_94 s) (fun τ => CTs τ) := by
  unfold F_X7_splitTape_94
  refine pk_b1 (Z_X7_addToken h) (fun s_1 (h_2 : CTs s_1) => ?_)
  exact pk_some h_2
theorem Z_X7_skipBlanks_41 {s : mG} (h : CTs s) : pk (F_X7_skipBlanks_41 s) (fun τ => CTs τ.2) := by
  unfold F_X7_skipBlanks_41
  refine pk_ite ?_ ?_
  · exact pk_some h
  · exact pk_some h
theorem Z_X7_skipBlanks_B0 {s : mG} (h : CTs s) : pk (F_X7_skipBlanks_B0 s) (se (fun τ => CTs τ) (fun τ => CTs τ.2)) := by
  unfold F_X7_skipBlanks_B0
  refine pk_ite ?_ ?_
  · refine pk_b1r ?_
    exact (Z_X7_skipBlanks_41 h)
  · refine pk_b1 pk_top (fun _ _ => ?_)
    refine pk_b1 pk_top (fun _ _ => ?_)
    refine pk_ite ?_ ?_
    · refine pk_b1r ?_
      exact (Z_X7_skipBlanks_41 h)
    · extract_lets +onlyGivenNames s_1
      have h_2 : CTs s_1 := CT_mu h (Or.inl (by decide))
      clear_value s_1
      exact pk_some h_2
theorem Z_X7_skipBlanks_L0 {s : mG} (h : CTs s) : pk (F_X7_skipBlanks_L0 s) (fun τ => CTs τ.2) := by
  unfold F_X7_skipBlanks_L0
  refine pk_whl (fun v => CTs v) h (fun v hv => ?_)
  exact Z_X7_skipBlanks_B0 hv
theorem Z_X7_skipBlanks {s : mG} (h : CTs s) : pk (F_X7_skipBlanks s) (fun τ => CTs τ.2) := by
  unfold F_X7_skipBlanks
  exact (Z_X7_skipBlanks_L0 h)
theorem Z_X7_splitTape_88 {x1 : Int32} {s : mG} (h : CTs s) : pk (F_X7_splitTape_88 x1 s) (se (fun τ => CTs τ.2) (fun τ => CTs τ)) := by
  unfold F_X7_splitTape_88
  exact pk_some h
theorem Z_X7_splitNumber_100 {x1 : Int32} {x2 : Int32} {y1 : Int32} {s : mG} (h : CTs s) : pk (F_X7_splitNumber_100 x1 x2 y1 s) (fun τ => CTs τ) := by
  unfold F_X7_splitNumber_100
  refine pk_b1 (Z_X7_addToken h) (fun s_1 (h_2 : CTs s_1) => ?_)
  exact pk_some h_2
theorem Z_X7_splitNumber_82 {x1 : Int32} {x2 : Int32} {s : mG} (h : CTs s) : pk (F_X7_splitNumber_82 x1 x2 s) (fun τ => CTs τ) := by
  unfold F_X7_splitNumber_82
  refine pk_ite ?_ ?_
  · exact (Z_X7_splitNumber_100 h)
  · exact (Z_X7_splitNumber_100 h)
theorem Z_X7_splitNumber_68 {x1 : Int32} {y0 : Int32} {s : mG} (h : CTs s) : pk (F_X7_splitNumber_68 x1 y0 s) (se (fun τ => CTs τ.2.2) (fun τ => CTs τ)) := by
  unfold F_X7_splitNumber_68
  extract_lets +onlyGivenNames s_1
  have h_2 : CTs s_1 := CT_mu h (Or.inl (by decide))
  clear_value s_1
  exact pk_some h_2
theorem Z_X7_splitNumber_B7 {x1 : Int32} {x2 : Int32} {s : mG} (h : CTs s) : pk (F_X7_splitNumber_B7 x1 x2 s) (se (fun τ => CTs τ.2.2) (fun τ => CTs τ)) := by
  unfold F_X7_splitNumber_B7
  refine pk_ite ?_ ?_
  · refine pk_b1r ?_
    exact (Z_X7_splitNumber_82 h)
  · refine pk_b1 pk_top (fun _ _ => ?_)
    refine pk_b1 pk_top (fun _ _ => ?_)
    refine pk_ite ?_ ?_
    · refine pk_b1r ?_
      exact (Z_X7_splitNumber_82 h)
    · refine pk_ite ?_ ?_
      · exact (Z_X7_splitNumber_68 h)
      · refine pk_b1 pk_top (fun _ _ => ?_)
        exact (Z_X7_splitNumber_68 h)
theorem Z_X7_splitNumber_L7 {x1 : Int32} {x2 : Int32} {s : mG} (h : CTs s) : pk (F_X7_splitNumber_L7 x1 x2 s) (fun τ => CTs τ) := by
  unfold F_X7_splitNumber_L7
  refine pk_whl (fun v => CTs v.2.2) h (fun v hv => ?_)
  obtain ⟨y0, y1, y2⟩ := v
  exact Z_X7_splitNumber_B7 hv
theorem Z_X7_splitNumber {s : mG} (h : CTs s) : pk (F_X7_splitNumber s) (fun τ => CTs τ) := by
  unfold F_X7_splitNumber
  exact (Z_X7_splitNumber_L7 h)
theorem Z_X7_splitWord_68 {x1 : Int32} {y1 : Int32} {s : mG} (h : CTs s) : pk (F_X7_splitWord_68 x1 y1 s) (fun τ => CTs τ) := by
  unfold F_X7_splitWord_68
  refine pk_b1 (Z_X7_addToken h) (fun s_1 (h_2 : CTs s_1) => ?_)
  exact pk_some h_2
theorem Z_X7_splitWord_46 {x1 : Int32} {s : mG} (h : CTs s) : pk (F_X7_splitWord_46 x1 s) (fun τ => CTs τ) := by
  unfold F_X7_splitWord_46
  refine pk_b1 pk_top (fun _ _ => ?_)
  refine pk_ite ?_ ?_
  · exact (Z_X7_splitWord_68 h)
  · exact (Z_X7_splitWord_68 h)
theorem Z_X7_splitWord_B5 {x1 : Int32} {s : mG} (h : CTs s) : pk (F_X7_splitWord_B5 x1 s) (se (fun τ => CTs τ.2) (fun τ => CTs τ)) := by
  unfold F_X7_splitWord_B5
  refine pk_ite ?_ ?_
  · refine pk_b1r ?_
    exact (Z_X7_splitWord_46 h)
  · refine pk_b1 pk_top (fun _ _ => ?_)
    refine pk_b1 pk_top (fun _ _ => ?_)
    refine pk_ite ?_ ?_
    · refine pk_b1r ?_
      exact (Z_X7_splitWord_46 h)
    · extract_lets +onlyGivenNames s_1
      have h_2 : CTs s_1 := CT_mu h (Or.inl (by decide))
      clear_value s_1
      exact pk_some h_2
theorem Z_X7_splitWord_L5 {x1 : Int32} {s : mG} (h : CTs s) : pk (F_X7_splitWord_L5 x1 s) (fun τ => CTs τ) := by
  unfold F_X7_splitWord_L5
  refine pk_whl (fun v => CTs v.2) h (fun v hv => ?_)
  obtain ⟨y0, y1⟩ := v
  exact Z_X7_splitWord_B5 hv
theorem Z_X7_splitWord {s : mG} (h : CTs s) : pk (F_X7_splitWord s) (fun τ => CTs τ) := by
  unfold F_X7_splitWord
  exact (Z_X7_splitWord_L5 h)
theorem Z_X7_splitTape_B14 {x1 : Int32} {s : mG} (h : CTs s) : pk (F_X7_splitTape_B14 x1 s) (se (fun τ => CTs τ.2) (fun τ => CTs τ)) := by
  unfold F_X7_splitTape_B14
  refine pk_ite ?_ ?_
  · refine pk_b1r ?_
    exact (Z_X7_splitTape_94 h)
  · refine pk_b2 (Z_X7_skipBlanks h) (fun _ s_1 (h_2 : CTs s_1) => ?_)
    refine pk_ite ?_ ?_
    · refine pk_b1r ?_
      exact (Z_X7_splitTape_94 h_2)
    · refine pk_b1 pk_top (fun _ _ => ?_)
      refine pk_b1 pk_top (fun _ _ => ?_)
      refine pk_ite ?_ ?_
      · refine pk_b1 pk_top (fun _ _ => ?_)
        refine pk_ite ?_ ?_
        · refine pk_b1 (Z_X7_addToken h_2) (fun s_3 (h_4 : CTs s_3) => ?_)
          extract_lets +onlyGivenNames s_5
          have h_6 : CTs s_5 := CT_mu h_4 (Or.inl (by decide))
          clear_value s_5
          exact (Z_X7_splitTape_88 h_6)
        · refine pk_b1 (Z_X7_splitNumber h_2) (fun s_7 (h_8 : CTs s_7) => ?_)
          exact (Z_X7_splitTape_88 h_8)
      · refine pk_b1 (Z_X7_splitWord h_2) (fun s_9 (h_10 : CTs s_9) => ?_)
        exact (Z_X7_splitTape_88 h_10)
theorem Z_X7_splitTape_L14 {x1 : Int32} {s : mG} (h : CTs s) : pk (F_X7_splitTape_L14 x1 s) (fun τ => CTs τ) := by
  unfold F_X7_splitTape_L14
  refine pk_whl (fun v => CTs v.2) h (fun v hv => ?_)
  obtain ⟨y0, y1⟩ := v
  exact Z_X7_splitTape_B14 hv
theorem Z_X7_splitTape {s : mG} (h : CTs s) : pk (F_X7_splitTape s) (fun τ => CTs τ) := by
  unfold F_X7_splitTape
  refine pk_b1 (Z_X10_clear h) (fun s_1 (h_2 : CTs s_1) => ?_)
  extract_lets +onlyGivenNames s_3
  have h_4 : CTs s_3 := CT_mu h_2 (Or.inl (by decide))
  clear_value s_3
  exact (Z_X7_splitTape_L14 h_4)
theorem Z_X7_stepOn {s : mG} (h : CTs s) : pk (F_X7_stepOn s) (fun τ => CTs τ) := by
  unfold F_X7_stepOn
  extract_lets +onlyGivenNames s_1
  have h_2 : CTs s_1 := CT_mu h (Or.inl (by decide))
  clear_value s_1
  refine pk_b1 pk_top (fun _ _ => ?_)
  extract_lets +onlyGivenNames s_3
  have h_4 : CTs s_3 := CT_mu h_2 (Or.inl (by decide))
  clear_value s_3
  refine pk_b1 pk_top (fun _ _ => ?_)
  extract_lets +onlyGivenNames s_5
  have h_6 : CTs s_5 := CT_mu h_4 (Or.inl (by decide))
  clear_value s_5
  refine pk_b1 pk_top (fun _ _ => ?_)
  extract_lets +onlyGivenNames s_7
  have h_8 : CTs s_7 := CT_mu h_6 (Or.inl (by decide))
  clear_value s_7
  exact pk_some h_8
theorem Z_X7_readText_119 {s : mG} (h : CTs s) : pk (F_X7_readText_119 s) (fun τ => CTs τ.2) := by
  unfold F_X7_readText_119
  exact pk_some h
theorem Z_X7_refuse {a1 : Int32} {s : mG} (h : CTs s) : pk (F_X7_refuse a1 s) (fun τ => CTs τ.2) := by
  unfold F_X7_refuse
  extract_lets +onlyGivenNames s_1
  have h_2 : CTs s_1 := CT_mu h (Or.inl (by decide))
  clear_value s_1
  extract_lets +onlyGivenNames s_3
  have h_4 : CTs s_3 := CT_mu h_2 (Or.inl (by decide))
  clear_value s_3
  exact pk_some h_4
theorem Z_X7_readUnit_68 {s : mG} (h : CTs s) : pk (F_X7_readUnit_68 s) (fun τ => CTs τ.2) := by
  unfold F_X7_readUnit_68
  refine pk_b1 (Z_X7_stepOn h) (fun s_1 (h_2 : CTs s_1) => ?_)
  exact pk_some h_2
theorem Z_X7_readUnit_62 {s : mG} (h : CTs s) : pk (F_X7_readUnit_62 s) (fun τ => CTs τ.2) := by
  unfold F_X7_readUnit_62
  refine pk_b2 (Z_X7_refuse h) (fun _ s_1 (h_2 : CTs s_1) => ?_)
  refine pk_pp ?_
  exact pk_some h_2
theorem Z_X7_readUnit {s : mG} (h : CTs s) : pk (F_X7_readUnit s) (fun τ => CTs τ.2) := by
  unfold F_X7_readUnit
  extract_lets +onlyGivenNames v_1
  clear_value v_1
  refine pk_ite ?_ ?_
  · refine pk_b1 (Z_X10_push (by decide) h) (fun s_2 (h_3 : CTs s_2) => ?_)
    exact (Z_X7_readUnit_68 h_3)
  · refine pk_ite ?_ ?_
    · exact (Z_X7_readUnit_62 h)
    · refine pk_ite ?_ ?_
      · exact (Z_X7_readUnit_62 h)
      · refine pk_b1 (Z_X10_push (by decide) h) (fun s_4 (h_5 : CTs s_4) => ?_)
        exact (Z_X7_readUnit_68 h_5)
theorem Z_X7_emitIfAny {a1 : Int32} {s : mG} (h : CTs s) : pk (F_X7_emitIfAny a1 s) (fun τ => CTs τ) := by
  unfold F_X7_emitIfAny
  refine pk_ite ?_ ?_
  · exact pk_some h
  · refine pk_b1 (Z_X10_push (by decide) h) (fun s_1 (h_2 : CTs s_1) => ?_)
    exact pk_some h_2
theorem Z_X7_readSum_114 {x1 : Int32} {s : mG} (h : CTs s) : pk (F_X7_readSum_114 x1 s) (fun τ => CTs τ.2) := by
  unfold F_X7_readSum_114
  refine pk_b1 (Z_X7_emitIfAny h) (fun s_1 (h_2 : CTs s_1) => ?_)
  exact pk_some h_2
theorem Z_X7_readPart {s : mG} (h : CTs s) : pk (F_X7_readPart s) (fun τ => CTs τ.2) := by
  unfold F_X7_readPart
  refine pk_ite ?_ ?_
  · refine pk_ite ?_ ?_
    · refine pk_b2 (Z_X7_refuse h) (fun _ s_1 (h_2 : CTs s_1) => ?_)
      refine pk_pp ?_
      exact pk_some h_2
    · refine pk_b1 (Z_X10_push (by decide) h) (fun s_3 (h_4 : CTs s_3) => ?_)
      refine pk_b1 (Z_X7_stepOn h_4) (fun s_5 (h_6 : CTs s_5) => ?_)
      exact pk_some h_6
  · refine pk_b2 (Z_X7_refuse h) (fun _ s_7 (h_8 : CTs s_7) => ?_)
    refine pk_pp ?_
    exact pk_some h_8
theorem Z_X7_readSum_91 {s : mG} (h : CTs s) : pk (F_X7_readSum_91 s) (fun τ => CTs τ.2) := by
  unfold F_X7_readSum_91
  exact pk_some h
theorem Z_X7_readSum_105 {x1 : Int32} {x2 : Int32} {y1 : Int32} {s : mG} (h : CTs s) : pk (F_X7_readSum_105 x1 x2 y1 s) (se (fun τ => CTs τ.2.2) (fun τ => CTs τ.2)) := by
  unfold F_X7_readSum_105
  refine pk_b1 (Z_X7_emitIfAny h) (fun s_1 (h_2 : CTs s_1) => ?_)
  exact pk_some h_2
theorem Z_X7_readSum_93 {x1 : Int32} {x2 : Int32} {x3 : Int32} {s : mG} (h : CTs s) : pk (F_X7_readSum_93 x1 x2 x3 s) (se (fun τ => CTs τ.2.2) (fun τ => CTs τ.2)) := by
  unfold F_X7_readSum_93
  refine pk_ite ?_ ?_
  · exact (Z_X7_readSum_105 h)
  · exact (Z_X7_readSum_105 h)
theorem Z_X7_readSum_68 {x1 : Int32} {x2 : Int32} {x3 : Int32} {s : mG} (h : CTs s) : pk (F_X7_readSum_68 x1 x2 x3 s) (se (fun τ => CTs τ.2.2) (fun τ => CTs τ.2)) := by
  unfold F_X7_readSum_68
  refine pk_ite ?_ ?_
  · refine pk_b2 (Z_X7_readPart h) (fun _ s_1 (h_2 : CTs s_1) => ?_)
    refine pk_ite ?_ ?_
    · refine pk_b1r ?_
      exact (Z_X7_readSum_91 h_2)
    · exact (Z_X7_readSum_93 h_2)
  · refine pk_b2 (Z_X7_readUnit h) (fun _ s_3 (h_4 : CTs s_3) => ?_)
    refine pk_ite ?_ ?_
    · refine pk_b1r ?_
      exact (Z_X7_readSum_91 h_4)
    · exact (Z_X7_readSum_93 h_4)
theorem Z_X7_readSum_67 {x2 : Int32} {x3 : Int32} {y0 : Int32} {s : mG} (h : CTs s) : pk (F_X7_readSum_67 x2 x3 y0 s) (se (fun τ => CTs τ.2.2) (fun τ => CTs τ.2)) := by
  unfold F_X7_readSum_67
  exact (Z_X7_readSum_68 h)
theorem Z_X7_readSum_51 {x1 : Int32} {x2 : Int32} {x3 : Int32} {s : mG} (h : CTs s) : pk (F_X7_readSum_51 x1 x2 x3 s) (se (fun τ => CTs τ.2.2) (fun τ => CTs τ.2)) := by
  unfold F_X7_readSum_51
  refine pk_b1 (Z_X7_emitIfAny h) (fun s_1 (h_2 : CTs s_1) => ?_)
  refine pk_ite ?_ ?_
  · exact (Z_X7_readSum_67 h_2)
  · exact (Z_X7_readSum_67 h_2)
theorem Z_X7_readSum_B13 {x1 : Int32} {x2 : Int32} {s : mG} (h : CTs s) : pk (F_X7_readSum_B13 x1 x2 s) (se (fun τ => CTs τ.2.2) (fun τ => CTs τ.2)) := by
  unfold F_X7_readSum_B13
  refine pk_ite ?_ ?_
  · refine pk_b1r ?_
    exact (Z_X7_readSum_114 h)
  · refine pk_b1 pk_top (fun _ _ => ?_)
    refine pk_ite ?_ ?_
    · refine pk_b1r ?_
      exact (Z_X7_readSum_114 h)
    · refine pk_b1 (Z_X7_stepOn h) (fun s_1 (h_2 : CTs s_1) => ?_)
      refine pk_ite ?_ ?_
      · exact (Z_X7_readSum_51 h_2)
      · refine pk_ite ?_ ?_
        · exact (Z_X7_readSum_51 h_2)
        · exact (Z_X7_readSum_68 h_2)
theorem Z_X7_readSum_L13 {x1 : Int32} {x2 : Int32} {s : mG} (h : CTs s) : pk (F_X7_readSum_L13 x1 x2 s) (fun τ => CTs τ.2) := by
  unfold F_X7_readSum_L13
  refine pk_whl (fun v => CTs v.2.2) h (fun v hv => ?_)
  obtain ⟨y0, y1, y2⟩ := v
  exact Z_X7_readSum_B13 hv
theorem Z_X7_readSum {s : mG} (h : CTs s) : pk (F_X7_readSum s) (fun τ => CTs τ.2) := by
  unfold F_X7_readSum
  refine pk_b2 (Z_X7_readUnit h) (fun _ s_1 (h_2 : CTs s_1) => ?_)
  refine pk_ite ?_ ?_
  · exact pk_some h_2
  · exact (Z_X7_readSum_L13 h_2)
theorem Z_X7_readOpenings_71 {s : mG} (h : CTs s) : pk (F_X7_readOpenings_71 s) (fun τ => CTs τ.2) := by
  unfold F_X7_readOpenings_71
  exact pk_some h
theorem Z_X7_hold {a1 : Int32} {s : mG} (h : CTs s) : pk (F_X7_hold a1 s) (fun τ => CTs τ) := by
  unfold F_X7_hold
  refine pk_b1 (Z_X11_put (by decide) h) (fun s_1 (h_2 : CTs s_1) => ?_)
  extract_lets +onlyGivenNames s_3
  have h_4 : CTs s_3 := CT_mu h_2 (Or.inl (by decide))
  clear_value s_3
  exact pk_some h_4
theorem Z_X7_readOpenings_28 {x1 : Int32} {s : mG} (h : CTs s) : pk (F_X7_readOpenings_28 x1 s) (se (fun τ => CTs τ.2) (fun τ => CTs τ.2)) := by
  unfold F_X7_readOpenings_28
  refine pk_ite ?_ ?_
  · refine pk_b1 (Z_X7_hold h) (fun s_1 (h_2 : CTs s_1) => ?_)
    extract_lets +onlyGivenNames s_3
    have h_4 : CTs s_3 := CT_mu h_2 (Or.inl (by decide))
    clear_value s_3
    refine pk_b1 (Z_X7_stepOn h_4) (fun s_5 (h_6 : CTs s_5) => ?_)
    exact pk_some h_6
  · refine pk_b2 (Z_X7_refuse h) (fun _ s_7 (h_8 : CTs s_7) => ?_)
    refine pk_pp ?_
    exact pk_some h_8
theorem Z_X7_readOpenings_B2 {x1 : Int32} {s : mG} (h : CTs s) : pk (F_X7_readOpenings_B2 x1 s) (se (fun τ => CTs τ.2) (fun τ => CTs τ.2)) := by
  unfold F_X7_readOpenings_B2
  refine pk_ite ?_ ?_
  · refine pk_b1r ?_
    exact (Z_X7_readOpenings_71 h)
  · refine pk_ite ?_ ?_
    · exact (Z_X7_readOpenings_28 h)
    · refine pk_ite ?_ ?_
      · exact (Z_X7_readOpenings_28 h)
      · refine pk_b1r ?_
        exact (Z_X7_readOpenings_71 h)
theorem Z_X7_readOpenings_L2 {x1 : Int32} {s : mG} (h : CTs s) : pk (F_X7_readOpenings_L2 x1 s) (fun τ => CTs τ.2) := by
  unfold F_X7_readOpenings_L2
  refine pk_whl (fun v => CTs v.2) h (fun v hv => ?_)
  obtain ⟨y0, y1⟩ := v
  exact Z_X7_readOpenings_B2 hv
theorem Z_X7_readOpenings {s : mG} (h : CTs s) : pk (F_X7_readOpenings s) (fun τ => CTs τ.2) := by
  unfold F_X7_readOpenings
  exact (Z_X7_readOpenings_L2 h)
theorem Z_X7_readCondition_33 {s : mG} (h : CTs s) : pk (F_X7_readCondition_33 s) (fun τ => CTs τ.2) := by
  unfold F_X7_readCondition_33
  exact pk_some h
theorem Z_X7_closeNots_B2 {x1 : Int32} {s : mG} (h : CTs s) : pk (F_X7_closeNots_B2 x1 s) (se (fun τ => CTs τ.2) (fun τ => CTs τ)) := by
  unfold F_X7_closeNots_B2
  refine pk_ite ?_ ?_
  · exact pk_some h
  · refine pk_b1 pk_top (fun _ _ => ?_)
    refine pk_ite ?_ ?_
    · refine pk_b1 (Z_X10_push (by decide) h) (fun s_1 (h_2 : CTs s_1) => ?_)
      extract_lets +onlyGivenNames s_3
      have h_4 : CTs s_3 := CT_mu h_2 (Or.inl (by decide))
      clear_value s_3
      extract_lets +onlyGivenNames s_5
      have h_6 : CTs s_5 := CT_mu h_4 (Or.inl (by decide))
      clear_value s_5
      exact pk_some h_6
    · exact pk_some h
theorem Z_X7_closeNots_L2 {x1 : Int32} {s : mG} (h : CTs s) : pk (F_X7_closeNots_L2 x1 s) (fun τ => CTs τ) := by
  unfold F_X7_closeNots_L2
  refine pk_whl (fun v => CTs v.2) h (fun v hv => ?_)
  obtain ⟨y0, y1⟩ := v
  exact Z_X7_closeNots_B2 hv
theorem Z_X7_closeNots {s : mG} (h : CTs s) : pk (F_X7_closeNots s) (fun τ => CTs τ) := by
  unfold F_X7_closeNots
  exact (Z_X7_closeNots_L2 h)
theorem Z_X7_joinWhatWaits_50 {x1 : Int32} {x2 : Int32} {y1 : Int32} {s : mG} (h : CTs s) : pk (F_X7_joinWhatWaits_50 x1 x2 y1 s) (se (fun τ => CTs τ.2.2) (fun τ => CTs τ)) := by
  unfold F_X7_joinWhatWaits_50
  refine pk_b1 (Z_X10_push (by decide) h) (fun s_1 (h_2 : CTs s_1) => ?_)
  extract_lets +onlyGivenNames s_3
  have h_4 : CTs s_3 := CT_mu h_2 (Or.inl (by decide))
  clear_value s_3
  exact pk_some h_4
theorem Z_X7_joinWhatWaits_32 {x1 : Int32} {x2 : Int32} {x3 : Int32} {s : mG} (h : CTs s) : pk (F_X7_joinWhatWaits_32 x1 x2 x3 s) (se (fun τ => CTs τ.2.2) (fun τ => CTs τ)) := by
  unfold F_X7_joinWhatWaits_32
  refine pk_ite ?_ ?_
  · exact (Z_X7_joinWhatWaits_50 h)
  · exact (Z_X7_joinWhatWaits_50 h)
theorem Z_X7_joinWhatWaits_B2 {x1 : Int32} {x2 : Int32} {s : mG} (h : CTs s) : pk (F_X7_joinWhatWaits_B2 x1 x2 s) (se (fun τ => CTs τ.2.2) (fun τ => CTs τ)) := by
  unfold F_X7_joinWhatWaits_B2
  refine pk_ite ?_ ?_
  · exact pk_some h
  · refine pk_b1 pk_top (fun _ _ => ?_)
    refine pk_ite ?_ ?_
    · exact (Z_X7_joinWhatWaits_32 h)
    · refine pk_ite ?_ ?_
      · refine pk_ite ?_ ?_
        · exact (Z_X7_joinWhatWaits_32 h)
        · exact pk_some h
      · exact pk_some h
theorem Z_X7_joinWhatWaits_L2 {x1 : Int32} {x2 : Int32} {s : mG} (h : CTs s) : pk (F_X7_joinWhatWaits_L2 x1 x2 s) (fun τ => CTs τ) := by
  unfold F_X7_joinWhatWaits_L2
  refine pk_whl (fun v => CTs v.2.2) h (fun v hv => ?_)
  obtain ⟨y0, y1, y2⟩ := v
  exact Z_X7_joinWhatWaits_B2 hv
theorem Z_X7_joinWhatWaits {a1 : Int32} {s : mG} (h : CTs s) : pk (F_X7_joinWhatWaits a1 s) (fun τ => CTs τ) := by
  unfold F_X7_joinWhatWaits
  exact (Z_X7_joinWhatWaits_L2 h)
theorem Z_X7_readClosings_B6 {x1 : Int32} {s : mG} (h : CTs s) : pk (F_X7_readClosings_B6 x1 s) (se (fun τ => CTs τ.2) (fun τ => CTs τ)) := by
  unfold F_X7_readClosings_B6
  refine pk_ite ?_ ?_
  · exact pk_some h
  · refine pk_ite ?_ ?_
    · refine pk_ite ?_ ?_
      · exact pk_some h
      · refine pk_b1 (Z_X7_joinWhatWaits h) (fun s_1 (h_2 : CTs s_1) => ?_)
        extract_lets +onlyGivenNames s_3
        have h_4 : CTs s_3 := CT_mu h_2 (Or.inl (by decide))
        clear_value s_3
        extract_lets +onlyGivenNames s_5
        have h_6 : CTs s_5 := CT_mu h_4 (Or.inl (by decide))
        clear_value s_5
        refine pk_b1 (Z_X7_stepOn h_6) (fun s_7 (h_8 : CTs s_7) => ?_)
        refine pk_b1 (Z_X7_closeNots h_8) (fun s_9 (h_10 : CTs s_9) => ?_)
        exact pk_some h_10
    · exact pk_some h
theorem Z_X7_readClosings_L6 {x1 : Int32} {s : mG} (h : CTs s) : pk (F_X7_readClosings_L6 x1 s) (fun τ => CTs τ) := by
  unfold F_X7_readClosings_L6
  refine pk_whl (fun v => CTs v.2) h (fun v hv => ?_)
  obtain ⟨y0, y1⟩ := v
  exact Z_X7_readClosings_B6 hv
theorem Z_X7_readClosings {s : mG} (h : CTs s) : pk (F_X7_readClosings s) (fun τ => CTs τ) := by
  unfold F_X7_readClosings
  refine pk_b1 (Z_X7_closeNots h) (fun s_1 (h_2 : CTs s_1) => ?_)
  exact (Z_X7_readClosings_L6 h_2)
theorem Z_X7_readCondition_140 {x1 : Int32} {s : mG} (h : CTs s) : pk (F_X7_readCondition_140 x1 s) (se (fun τ => CTs τ.2) (fun τ => CTs τ.2)) := by
  unfold F_X7_readCondition_140
  refine pk_b1 (Z_X7_hold h) (fun s_1 (h_2 : CTs s_1) => ?_)
  refine pk_b1 (Z_X7_stepOn h_2) (fun s_3 (h_4 : CTs s_3) => ?_)
  exact pk_some h_4
theorem Z_X7_readCondition_134 {s : mG} (h : CTs s) : pk (F_X7_readCondition_134 s) (fun τ => CTs τ.2) := by
  unfold F_X7_readCondition_134
  exact pk_some h
theorem Z_X7_readCondition_96 {x1 : Int32} {y1 : Int32} {s : mG} (h : CTs s) : pk (F_X7_readCondition_96 x1 y1 s) (se (fun τ => CTs τ.2) (fun τ => CTs τ.2)) := by
  unfold F_X7_readCondition_96
  refine pk_b1 (Z_X7_joinWhatWaits h) (fun s_1 (h_2 : CTs s_1) => ?_)
  refine pk_ite ?_ ?_
  · exact (Z_X7_readCondition_140 h_2)
  · refine pk_ite ?_ ?_
    · exact (Z_X7_readCondition_140 h_2)
    · refine pk_ite ?_ ?_
      · refine pk_b1r ?_
        exact (Z_X7_readCondition_134 h_2)
      · refine pk_b2 (Z_X7_refuse h_2) (fun _ s_3 (h_4 : CTs s_3) => ?_)
        refine pk_ite ?_ ?_
        · exact pk_some h_4
        · refine pk_b1r ?_
          exact (Z_X7_readCondition_134 h_4)
theorem Z_X7_readCondition_B12 {x1 : Int32} {s : mG} (h : CTs s) : pk (F_X7_readCondition_B12 x1 s) (se (fun τ => CTs τ.2) (fun τ => CTs τ.2)) := by
  unfold F_X7_readCondition_B12
  refine pk_ite ?_ ?_
  · exact pk_some h
  · refine pk_b2 (Z_X7_readOpenings h) (fun _ s_1 (h_2 : CTs s_1) => ?_)
    refine pk_ite ?_ ?_
    · refine pk_b1r ?_
      exact (Z_X7_readCondition_33 h_2)
    · refine pk_b2 (Z_X7_readSum h_2) (fun _ s_3 (h_4 : CTs s_3) => ?_)
      refine pk_ite ?_ ?_
      · refine pk_b1r ?_
        exact (Z_X7_readCondition_33 h_4)
      · refine pk_b1 pk_top (fun _ _ => ?_)
        refine pk_ite ?_ ?_
        · refine pk_b2 (Z_X7_refuse h_4) (fun _ s_5 (h_6 : CTs s_5) => ?_)
          refine pk_pp ?_
          exact pk_some h_6
        · refine pk_b1 (Z_X7_stepOn h_4) (fun s_7 (h_8 : CTs s_7) => ?_)
          refine pk_b2 (Z_X7_readSum h_8) (fun _ s_9 (h_10 : CTs s_9) => ?_)
          refine pk_ite ?_ ?_
          · exact pk_some h_10
          · refine pk_b1 (Z_X10_push (by decide) h_10) (fun s_11 (h_12 : CTs s_11) => ?_)
            refine pk_b1 (Z_X7_readClosings h_12) (fun s_13 (h_14 : CTs s_13) => ?_)
            refine pk_ite ?_ ?_
            · exact (Z_X7_readCondition_96 h_14)
            · exact (Z_X7_readCondition_96 h_14)
theorem Z_X7_readCondition_L12 {x1 : Int32} {s : mG} (h : CTs s) : pk (F_X7_readCondition_L12 x1 s) (fun τ => CTs τ.2) := by
  unfold F_X7_readCondition_L12
  refine pk_whl (fun v => CTs v.2) h (fun v hv => ?_)
  obtain ⟨y0, y1⟩ := v
  exact Z_X7_readCondition_B12 hv
theorem Z_X7_readCondition {s : mG} (h : CTs s) : pk (F_X7_readCondition s) (fun τ => CTs τ.2) := by
  unfold F_X7_readCondition
  extract_lets +onlyGivenNames s_1
  have h_2 : CTs s_1 := CT_mu h (Or.inl (by decide))
  clear_value s_1
  extract_lets +onlyGivenNames s_3
  have h_4 : CTs s_3 := CT_mu h_2 (Or.inl (by decide))
  clear_value s_3
  exact (Z_X7_readCondition_L12 h_4)
theorem Z_X7_pass {a1 : Int32} {s : mG} (h : CTs s) : pk (F_X7_pass a1 s) (fun τ => CTs τ.2) := by
  unfold F_X7_pass
  refine pk_ite ?_ ?_
  · refine pk_b1 (Z_X7_stepOn h) (fun s_1 (h_2 : CTs s_1) => ?_)
    exact pk_some h_2
  · refine pk_b2 (Z_X7_refuse h) (fun _ s_3 (h_4 : CTs s_3) => ?_)
    refine pk_pp ?_
    exact pk_some h_4
theorem Z_X7_readLaw_126 {x1 : Int32} {s : mG} (h : CTs s) : pk (F_X7_readLaw_126 x1 s) (fun τ => CTs τ.2) := by
  unfold F_X7_readLaw_126
  refine pk_b1 (Z_X10_put (by decide) h) (fun s_1 (h_2 : CTs s_1) => ?_)
  refine pk_b2 (Z_X7_pass h_2) (fun _ s_3 (h_4 : CTs s_3) => ?_)
  refine pk_pp ?_
  exact pk_some h_4
theorem Z_X7_readLaw {s : mG} (h : CTs s) : pk (F_X7_readLaw s) (fun τ => CTs τ.2) := by
  unfold F_X7_readLaw
  refine pk_b1 pk_top (fun _ _ => ?_)
  refine pk_ite ?_ ?_
  · refine pk_b2 (Z_X7_refuse h) (fun _ s_1 (h_2 : CTs s_1) => ?_)
    refine pk_pp ?_
    exact pk_some h_2
  · refine pk_b2 (Z_X10_add h) (fun _ s_3 (h_4 : CTs s_3) => ?_)
    refine pk_ite ?_ ?_
    · refine pk_b2 (Z_X7_refuse h_4) (fun _ s_5 (h_6 : CTs s_5) => ?_)
      refine pk_pp ?_
      exact pk_some h_6
    · refine pk_b1 (Z_X10_put (by decide) h_4) (fun s_7 (h_8 : CTs s_7) => ?_)
      refine pk_b1 (Z_X10_put (by decide) h_8) (fun s_9 (h_10 : CTs s_9) => ?_)
      refine pk_b1 (Z_X7_stepOn h_10) (fun s_11 (h_12 : CTs s_11) => ?_)
      refine pk_b2 (Z_X7_readSum h_12) (fun _ s_13 (h_14 : CTs s_13) => ?_)
      refine pk_ite ?_ ?_
      · exact pk_some h_14
      · refine pk_b1 (Z_X10_put (by decide) h_14) (fun s_15 (h_16 : CTs s_15) => ?_)
        refine pk_ite ?_ ?_
        · refine pk_b1 (Z_X7_stepOn h_16) (fun s_17 (h_18 : CTs s_17) => ?_)
          refine pk_b2 (Z_X7_readCondition h_18) (fun _ s_19 (h_20 : CTs s_19) => ?_)
          refine pk_ite ?_ ?_
          · exact pk_some h_20
          · exact (Z_X7_readLaw_126 h_20)
        · exact (Z_X7_readLaw_126 h_16)
theorem Z_X7_readText_106 {x1 : Int32} {x2 : Int32} {y0 : Int32} {s : mG} (h : CTs s) : pk (F_X7_readText_106 x1 x2 y0 s) (se (fun τ => CTs τ.2.2) (fun τ => CTs τ.2)) := by
  unfold F_X7_readText_106
  refine pk_ite ?_ ?_
  · exact pk_some h
  · exact pk_some h
theorem Z_X7_readHead_30 {a2 : Nat} {s : mG} (h : CTs s) : pk (F_X7_readHead_30 a2 s) (fun τ => CTs τ.2) := by
  unfold F_X7_readHead_30
  exact pk_some h
theorem Z_X7_readHead {a2 : Nat} {a1 : Int32} {s : mG} (h : CTs s) : pk (F_X7_readHead a2 a1 s) (fun τ => CTs τ.2) := by
  unfold F_X7_readHead
  refine pk_ite ?_ ?_
  · refine pk_b2 (Z_X10_add h) (fun _ s_1 (h_2 : CTs s_1) => ?_)
    refine pk_ite ?_ ?_
    · refine pk_b2 (Z_X7_refuse h_2) (fun _ s_3 (h_4 : CTs s_3) => ?_)
      refine pk_ite ?_ ?_
      · exact pk_some h_4
      · exact (Z_X7_readHead_30 h_4)
    · exact (Z_X7_readHead_30 h_2)
  · refine pk_b2 (Z_X7_refuse h) (fun _ s_5 (h_6 : CTs s_5) => ?_)
    refine pk_pp ?_
    exact pk_some h_6
theorem Z_X7_readNamed {a4 : Nat} {a1 : Int32} {a2 : Int32} {a3 : Int32} {a5 : Int32} {s : mG} (ha : ∀ p ∈ TL, p.1 ≠ a4 + 1) (h : CTs s) : pk (F_X7_readNamed a4 a1 a2 a3 a5 s) (fun τ => CTs τ.2) := by
  unfold F_X7_readNamed
  refine pk_b2 (Z_X7_pass h) (fun _ s_1 (h_2 : CTs s_1) => ?_)
  refine pk_ite ?_ ?_
  · exact pk_some h_2
  · refine pk_ite ?_ ?_
    · refine pk_b1 pk_top (fun _ _ => ?_)
      refine pk_ite ?_ ?_
      · refine pk_b2 (Z_X7_refuse h_2) (fun _ s_3 (h_4 : CTs s_3) => ?_)
        refine pk_pp ?_
        exact pk_some h_4
      · refine pk_b1 (Z_X10_put ha h_2) (fun s_5 (h_6 : CTs s_5) => ?_)
        refine pk_b1 (Z_X7_stepOn h_6) (fun s_7 (h_8 : CTs s_7) => ?_)
        exact pk_some h_8
    · refine pk_b2 (Z_X7_refuse h_2) (fun _ s_9 (h_10 : CTs s_9) => ?_)
      refine pk_pp ?_
      exact pk_some h_10
theorem Z_X7_readSign_71 {s : mG} (h : CTs s) : pk (F_X7_readSign_71 s) (fun τ => CTs τ.2) := by
  unfold F_X7_readSign_71
  exact pk_some h
theorem Z_X7_readSign {s : mG} (h : CTs s) : pk (F_X7_readSign s) (fun τ => CTs τ.2) := by
  unfold F_X7_readSign
  refine pk_b2 (Z_X7_readHead h) (fun _ s_1 (h_2 : CTs s_1) => ?_)
  refine pk_ite ?_ ?_
  · exact pk_some h_2
  · refine pk_b1 (Z_X7_stepOn h_2) (fun s_3 (h_4 : CTs s_3) => ?_)
    refine pk_b2 (Z_X7_readNamed (by decide) h_4) (fun _ s_5 (h_6 : CTs s_5) => ?_)
    refine pk_ite ?_ ?_
    · exact (Z_X7_readSign_71 h_6)
    · refine pk_b2 (Z_X7_readNamed (by decide) h_6) (fun _ s_7 (h_8 : CTs s_7) => ?_)
      refine pk_ite ?_ ?_
      · exact (Z_X7_readSign_71 h_8)
      · refine pk_b2 (Z_X7_pass h_8) (fun _ s_9 (h_10 : CTs s_9) => ?_)
        refine pk_ite ?_ ?_
        · exact (Z_X7_readSign_71 h_10)
        · exact pk_some h_10
theorem Z_X7_readShift_97 {s : mG} (h : CTs s) : pk (F_X7_readShift_97 s) (fun τ => CTs τ.2) := by
  unfold F_X7_readShift_97
  exact pk_some h
theorem Z_X7_readShift {s : mG} (h : CTs s) : pk (F_X7_readShift s) (fun τ => CTs τ.2) := by
  unfold F_X7_readShift
  refine pk_b2 (Z_X7_readHead h) (fun _ s_1 (h_2 : CTs s_1) => ?_)
  refine pk_ite ?_ ?_
  · exact (Z_X7_readShift_97 h_2)
  · refine pk_b2 (Z_X7_readNamed (by decide) h_2) (fun _ s_3 (h_4 : CTs s_3) => ?_)
    refine pk_ite ?_ ?_
    · exact (Z_X7_readShift_97 h_4)
    · refine pk_b2 (Z_X7_readNamed (by decide) h_4) (fun _ s_5 (h_6 : CTs s_5) => ?_)
      refine pk_ite ?_ ?_
      · exact (Z_X7_readShift_97 h_6)
      · refine pk_b2 (Z_X7_readNamed (by decide) h_6) (fun _ s_7 (h_8 : CTs s_7) => ?_)
        refine pk_ite ?_ ?_
        · exact (Z_X7_readShift_97 h_8)
        · refine pk_b2 (Z_X7_readNamed (by decide) h_8) (fun _ s_9 (h_10 : CTs s_9) => ?_)
          refine pk_ite ?_ ?_
          · exact (Z_X7_readShift_97 h_10)
          · refine pk_b2 (Z_X7_pass h_10) (fun _ s_11 (h_12 : CTs s_11) => ?_)
            refine pk_ite ?_ ?_
            · exact (Z_X7_readShift_97 h_12)
            · exact pk_some h_12
theorem Z_X7_readText_B64 {x1 : Int32} {x2 : Int32} {s : mG} (h : CTs s) : pk (F_X7_readText_B64 x1 x2 s) (se (fun τ => CTs τ.2.2) (fun τ => CTs τ.2)) := by
  unfold F_X7_readText_B64
  refine pk_ite ?_ ?_
  · refine pk_b1r ?_
    exact (Z_X7_readText_119 h)
  · refine pk_ite ?_ ?_
    · refine pk_b1r ?_
      exact (Z_X7_readText_119 h)
    · refine pk_ite ?_ ?_
      · refine pk_b2 (Z_X7_readLaw h) (fun _ s_1 (h_2 : CTs s_1) => ?_)
        exact (Z_X7_readText_106 h_2)
      · refine pk_ite ?_ ?_
        · refine pk_b2 (Z_X7_readSign h) (fun _ s_3 (h_4 : CTs s_3) => ?_)
          exact (Z_X7_readText_106 h_4)
        · refine pk_b2 (Z_X7_readShift h) (fun _ s_5 (h_6 : CTs s_5) => ?_)
          exact (Z_X7_readText_106 h_6)
theorem Z_X7_readText_L64 {x1 : Int32} {x2 : Int32} {s : mG} (h : CTs s) : pk (F_X7_readText_L64 x1 x2 s) (fun τ => CTs τ.2) := by
  unfold F_X7_readText_L64
  refine pk_whl (fun v => CTs v.2.2) h (fun v hv => ?_)
  obtain ⟨y0, y1, y2⟩ := v
  exact Z_X7_readText_B64 hv
theorem Z_X7_readText {a1 : Int32} {s : mG} (h : CTs s) : pk (F_X7_readText a1 s) (fun τ => CTs τ.2) := by
  unfold F_X7_readText
  extract_lets +onlyGivenNames s_1
  have h_2 : CTs s_1 := CT_mu h (Or.inl (by decide))
  clear_value s_1
  extract_lets +onlyGivenNames s_3
  have h_4 : CTs s_3 := CT_mu h_2 (Or.inl (by decide))
  clear_value s_3
  refine pk_ite ?_ ?_
  · exact (Z_X7_readText_19 h_4)
  · refine pk_ite ?_ ?_
    · refine pk_b1 (Z_X7_splitTape h_4) (fun s_5 (h_6 : CTs s_5) => ?_)
      refine pk_b1 (Z_X10_clear h_6) (fun s_7 (h_8 : CTs s_7) => ?_)
      refine pk_b1 (Z_X10_clear h_8) (fun s_9 (h_10 : CTs s_9) => ?_)
      refine pk_b1 (Z_X10_clear h_10) (fun s_11 (h_12 : CTs s_11) => ?_)
      refine pk_b1 (Z_X10_clear h_12) (fun s_13 (h_14 : CTs s_13) => ?_)
      extract_lets +onlyGivenNames s_15
      have h_16 : CTs s_15 := CT_mu h_14 (Or.inl (by decide))
      clear_value s_15
      refine pk_b1 (Z_X7_stepOn h_16) (fun s_17 (h_18 : CTs s_17) => ?_)
      exact (Z_X7_readText_L64 h_18)
    · exact (Z_X7_readText_19 h_4)
theorem Z_X5_forget {s : mG} (h : CTs s) : pk (F_X5_forget s) (fun τ => CTs τ) := by
  unfold F_X5_forget
  extract_lets +onlyGivenNames s_1
  have h_2 : CTs s_1 := CT_mu h (Or.inl (by decide))
  clear_value s_1
  exact pk_some h_2
theorem Z_X11_text {a1 : Int32} {s : mG} (h : CTs s) : pk (F_X11_text a1 s) (fun τ => CTs τ.2) := by
  unfold F_X11_text
  refine pk_b2 (Z_X7_readText h) (fun _ s_1 (h_2 : CTs s_1) => ?_)
  extract_lets +onlyGivenNames s_3
  have h_4 : CTs s_3 := CT_mu h_2 (Or.inl (by decide))
  clear_value s_3
  refine pk_ite ?_ ?_
  · exact pk_some h_4
  · refine pk_ite ?_ ?_
    · refine pk_b1 (Z_X10_copyFrom (by decide) (by decide) h_4) (fun s_5 (h_6 : CTs s_5) => ?_)
      refine pk_b1 (Z_X10_copyFrom (by decide) (by decide) h_6) (fun s_7 (h_8 : CTs s_7) => ?_)
      exact pk_some h_8
    · refine pk_b1 (Z_X5_forget h_4) (fun s_9 (h_10 : CTs s_9) => ?_)
      refine pk_ite ?_ ?_
      · refine pk_b1 (Z_X10_copyFrom (by decide) (by decide) h_10) (fun s_11 (h_12 : CTs s_11) => ?_)
        refine pk_b1 (Z_X2_forgetSeen h_12) (fun s_13 (h_14 : CTs s_13) => ?_)
        exact pk_some h_14
      · refine pk_b1 (Z_X10_copyFrom (by decide) (by decide) h_10) (fun s_15 (h_16 : CTs s_15) => ?_)
        exact pk_some h_16
/-! the image -/
theorem Z_X2_copyFrom {h a : Nat} {s : mG} (hh : h = 1 ∧ a = 18 ∨ h = 18 ∧ a = 1) (hc : CTs s) : pk (F_X2_copyFrom h a s) CTs := by
  unfold F_X2_copyFrom
  rcases hh with ⟨e1, e2⟩ | ⟨e1, e2⟩ <;> subst e1 <;> subst e2
  all_goals
    refine pk_b1 (Z_X10_copyFrom (by decide) (by decide) hc) (fun s2 h2 => ?_)
    refine pk_b1 (Z_X10_copyFrom (by decide) (by decide) h2) (fun s2 h2 => ?_)
    refine pk_b1 (Z_X10_copyFrom (by decide) (by decide) h2) (fun s2 h2 => ?_)
    refine pk_b1 (Z_X10_copyFrom (by decide) (by decide) h2) (fun s2 h2 => ?_)
    refine pk_b1 (Z_X10_copyFrom (by decide) (by decide) h2) (fun s2 h2 => ?_)
    refine pk_b1 (Z_X10_copyFrom (by decide) (by decide) h2) (fun s2 h2 => ?_)
    refine pk_b1 (Z_X10_copyFrom (by decide) (by decide) h2) (fun s2 h2 => ?_)
    refine pk_b1 (Z_X10_copyFrom (by decide) (by decide) h2) (fun s2 h2 => ?_)
    exact pk_some (CT_mu (CT_mu (CT_mu (CT_mu h2 (Or.inl (by decide))) (Or.inl (by decide))) (Or.inl (by decide))) (Or.inl (by decide)))
theorem Z_X11_image {a1 : Int32} {s : mG} (h : CTs s) : pk (F_X11_image a1 s) (fun τ => CTs τ.2) := by
  unfold F_X11_image F_X5_forget
  refine pk_ite (pk_ite (pk_some h) (pk_b1 (Z_X2_copyFrom (Or.inl ⟨rfl, rfl⟩) h) (fun s2 h2 => ?_))) (pk_b1 (Z_X2_copyFrom (Or.inr ⟨rfl, rfl⟩) h) (fun s2 h2 => ?_))
  · rw [b1_some]; exact pk_some (CT_mu h2 (Or.inl (by decide)))
  · exact pk_some (CT_mu h2 (Or.inl (by decide)))
end
