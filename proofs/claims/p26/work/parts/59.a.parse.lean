/-! THE REFERENCE READS A TEXT: its tokens -/
def RN (s s' : mG) : Prop := (∀ j, j ≠ 88 → s'.1 j = s.1 j) ∧ (∀ k, k ≠ 16 → k ≠ 17 → k ≠ 18 → k ≠ 19 → s'.1 88 k = s.1 88 k)
theorem RN_refl {s : mG} : RN s s := ⟨fun _ _ => rfl, fun _ _ _ _ _ => rfl⟩
theorem RN_tr {s s' s2 : mG} (h : RN s s') (k : RN s' s2) : RN s s2 := ⟨fun j hj => (k.1 j hj).trans (h.1 j hj), fun i h1 h2 h3 h4 => (k.2 i h1 h2 h3 h4).trans (h.2 i h1 h2 h3 h4)⟩
theorem RN_mu {s : mG} {k : Nat} {v : Int32} (hk : k = 16 ∨ k = 17 ∨ k = 18 ∨ k = 19) : RN s (mu s.1 88 k v, s.2) :=
  ⟨fun j hj => mu_rowP hj, fun i h1 h2 h3 h4 => mu_cellP (Or.inr (by omega))⟩
def PI (s : mG) : Prop := (s.1 88 15).toInt ≤ 400 ∧ 0 ≤ (s.1 88 18).toInt ∧ (s.1 88 18).toInt ≤ (s.1 88 16).toInt ∧ (s.1 88 16).toInt ≤ (s.1 88 15).toInt ∧ (s.1 88 17 ≠ 0 → (s.1 88 18).toInt < (s.1 88 16).toInt)
def P0 (s : mG) : Prop := (s.1 88 15).toInt ≤ 400 ∧ 0 ≤ (s.1 88 16).toInt ∧ (s.1 88 16).toInt ≤ (s.1 88 15).toInt
theorem PI_P0 {s : mG} (h : PI s) : P0 s := ⟨h.1, by have := h.2.1; have := h.2.2.1; omega, h.2.2.2.1⟩
def seeV (s : mG) (a : Int32) : Int32 := if s.1 88 15 ≤ a then ci (-1) else s.1 95 a.toNatClampNeg
theorem F_see {s : mG} {a : Int32} (h : (s.1 88 15).toInt ≤ 400) (h0 : 0 ≤ a.toInt) : F_X12_see s a = some (seeV s a) := by
  unfold F_X12_see seeV
  by_cases c : s.1 88 15 ≤ a
  · rw [if_pos c, if_pos c]
  · have c1 := r_nle (rfl : (s.1 88 15).toInt = _) (rfl : a.toInt = _) c
    rw [if_neg c, if_neg c, if_neg (ix_ok (rfl : a.toInt = _) h0 (by omega))]
def isLV (c : Int32) : Int32 := if wi c (c8 97) (c8 122) = 0 then (if wi c (c8 65) (c8 90) = 0 then ci 0 else ci 1) else ci 1
theorem F_isLetter {s : mG} {c : Int32} : F_X12_isLetter s c = some (isLV c) := by
  unfold F_X12_isLetter F_X12_isLetter_22 isLV
  rw [F_isIn, F_isIn, b1_some, b1_some]
  by_cases h1 : wi c (c8 97) (c8 122) = 0
  · rw [if_pos h1, if_pos h1]
    by_cases h2 : wi c (c8 65) (c8 90) = 0
    · rw [if_pos h2, if_pos h2]
    · rw [if_neg h2, if_neg h2]
  · rw [if_neg h1, if_neg h1]
theorem F_isDigit {s : mG} {c : Int32} : F_X12_isDigit s c = some (wi c (c8 48) (c8 57)) := by
  unfold F_X12_isDigit
  rw [F_isIn, b1_some]
  exact if_pos (wi_b _ _ _)
theorem see_lt {s : mG} {f : Int32 → Int32} (hf : f (ci (-1)) = 0) {a : Int32} (h : ¬ f (seeV s a) = 0) : a.toInt < (s.1 88 15).toInt := by
  refine Int.lt_of_not_ge fun q => h ?_
  unfold seeV
  rw [if_pos (Int32.le_iff_toInt_le.mpr q)]
  exact hf
theorem isLV_m : isLV (ci (-1)) = 0 := by decide
theorem isDV_m : wi (ci (-1)) (c8 48) (c8 57) = 0 := by decide
theorem see_ne {s : mG} {a c : Int32} (hc : ¬ ci (-1) = c) (h : seeV s a = c) : a.toInt < (s.1 88 15).toInt := by
  refine Int.lt_of_not_ge fun q => ?_
  unfold seeV at h
  rw [if_pos (Int32.le_iff_toInt_le.mpr q)] at h
  exact hc h
theorem see_m {s : mG} {a : Int32} (h : ¬ seeV s a = ci (-1)) : a.toInt < (s.1 88 15).toInt := by
  refine Int.lt_of_not_ge fun q => h ?_
  unfold seeV
  rw [if_pos (Int32.le_iff_toInt_le.mpr q)]
theorem T_X12_is {a1 : Nat} {s : mG} (h_a1 : 1000100 ≤ a1 ∧ a1 < 1000127) (h1 : 0 ≤ (s.1 88 18).toInt ∧ (s.1 88 18).toInt ≤ (s.1 88 16).toInt ∧ (s.1 88 16).toInt ≤ 400) : ok (F_X12_is a1 s) PT := by
  unfold F_X12_is
  rw [F_len h_a1, b1_some]
  have hl := m_sb_lt (a1 - 1000100)
  generalize hL : (m_sb.getD (a1 - 1000100) []).length = L at hl
  have tl : (cn L).toInt = (L : Int) := t_cn hl
  have main : ∀ y0, (¬ y0 = 0 → (s.1 88 16).toInt - (s.1 88 18).toInt = L) → PB y0 → ok (F_X12_is_21 a1 s y0) PT := by
    intro y0 hy hb
    unfold F_X12_is_21 F_X12_is_L24
    refine ok_whl (fun v => PB v.1 ∧ 0 ≤ v.2.toInt ∧ (¬ v.1 = 0 → (s.1 88 16).toInt - (s.1 88 18).toInt = L)) (fun v => mUp v.2) ⟨hb, show 0 ≤ (ci 0).toInt by decide, hy⟩ (fun v hv => ?_)
    obtain ⟨x2, x3⟩ := v
    obtain ⟨r1, r2, r3⟩ := hv
    have p1 : PB x2 := r1
    have p2 : 0 ≤ x3.toInt := r2
    have p3 : ¬ x2 = 0 → (s.1 88 16).toInt - (s.1 88 18).toInt = L := r3
    clear r1 r2 r3
    show ok (F_X12_is_B24 a1 s x2 x3) _
    unfold F_X12_is_B24 F_X12_is_67 F_X12_is_60
    rw [F_len h_a1, b1_some, hL]
    have fin : ok (b1 (if x2 = 0 ∨ x2 = 1 then some x2 else none) fun τ => some (Sum.inr τ)) (lpost (fun (v : Int32 × Int32) => PB v.1 ∧ 0 ≤ v.2.toInt ∧ (¬ v.1 = 0 → (s.1 88 16).toInt - (s.1 88 18).toInt = L)) (fun (v : Int32 × Int32) => mUp v.2) (mUp x3) (PT : Int32 → Prop)) := by
      rw [if_pos (show x2 = 0 ∨ x2 = 1 from p1)]; exact ok_some trivial
    refine ok_ite (fun _ => fin) (fun c => ?_)
    have c1 := r_nle tl (rfl : x3.toInt = _) c
    refine ok_ite (fun _ => fin) (fun c2 => ?_)
    have c3 := p3 c2
    refine ok_nn (ix_ok (r_add (rfl : (s.1 88 18).toInt = _) (rfl : x3.toInt = _) (by omega) (by omega)) (by omega) (by omega)) ?_
    refine ok_b1 (T_chr h_a1 (t_of_nn p2) (by rw [hL]; exact c)) (fun v11 _ => ?_)
    refine ok_ite (fun _ => ?_) (fun _ => ?_)
    · exact ok_some (lp_inl ⟨pb1, up_0 (x := x3) p2 (by omega), fun _ => c3⟩ (up_t (x := x3) (by omega)))
    · exact ok_some (lp_inl ⟨pb0, up_0 (x := x3) p2 (by omega), fun _ => c3⟩ (up_t (x := x3) (by omega)))
  refine ok_ite (fun c => ?_) (fun _ => ?_)
  · refine main _ (fun _ => ?_) pb1
    exact r_eq (r_sub (rfl : (s.1 88 16).toInt = _) (rfl : (s.1 88 18).toInt = _) (by omega) (by omega)) tl c
  · exact main _ (fun q => absurd (by decide) q) pb0
def Pw (s : mG) : Prop := 0 ≤ (s.1 88 18).toInt ∧ (s.1 88 18).toInt ≤ (s.1 88 16).toInt ∧ (s.1 88 16).toInt ≤ 400
theorem T_X12_wordOfLaw {s : mG} (h : Pw s) : ok (F_X12_wordOfLaw s) PT := by
  unfold F_X12_wordOfLaw
  repeat' (first | exact ok_some trivial | refine ok_b1 (T_X12_is (by decide) h) (fun _ _ => ?_) | refine ok_ite (fun _ => ?_) (fun _ => ?_))
theorem T_X12_asked {s : mG} (h : Pw s) : ok (F_X12_asked s) PT := by
  unfold F_X12_asked
  repeat' (first | exact ok_some trivial | refine ok_b1 (T_X12_is (by decide) h) (fun _ _ => ?_) | refine ok_b1 (T_X12_wordOfLaw h) (fun _ _ => ?_) | refine ok_ite (fun _ => ?_) (fun _ => ?_))
theorem T_X12_lawWord {s : mG} (h : Pw s) : ok (F_X12_lawWord s) PT := by
  unfold F_X12_lawWord
  repeat' (first | exact ok_some trivial | refine ok_b1 (T_X12_is (by decide) h) (fun _ _ => ?_) | refine ok_b1 (T_X12_asked h) (fun _ _ => ?_) | refine ok_ite (fun _ => ?_) (fun _ => ?_))
theorem T_X12_signWord {s : mG} (h : Pw s) : ok (F_X12_signWord s) PT := by
  unfold F_X12_signWord
  repeat' (first | exact ok_some trivial | refine ok_b1 (T_X12_is (by decide) h) (fun _ _ => ?_) | refine ok_ite (fun _ => ?_) (fun _ => ?_))
theorem T_X12_shiftWord {s : mG} (h : Pw s) : ok (F_X12_shiftWord s) PT := by
  unfold F_X12_shiftWord
  repeat' (first | exact ok_some trivial | refine ok_b1 (T_X12_is (by decide) h) (fun _ _ => ?_) | refine ok_ite (fun _ => ?_) (fun _ => ?_))
theorem T_X12_word {s : mG} (h : Pw s) : ok (F_X12_word s) PT := by
  unfold F_X12_word
  refine ok_ite (fun _ => ?_) (fun _ => ok_ite (fun _ => ?_) (fun _ => ?_))
  · exact ok_b1 (T_X12_lawWord h) (fun _ _ => ok_some trivial)
  · exact ok_b1 (T_X12_signWord h) (fun _ _ => ok_some trivial)
  · exact ok_b1 (T_X12_shiftWord h) (fun _ _ => ok_some trivial)
/-- what a next token brings -/
def NX (s s' : mG) : Prop := RN s s' ∧ PI s' ∧ (s.1 88 16).toInt ≤ (s'.1 88 18).toInt
/-- within a token that began at b -/
def IT (s : mG) (b : Int) (f : Int32 → Int32) (s1 : mG) : Prop := RN s s1 ∧ (s1.1 88 18).toInt = b ∧ b ≤ (s1.1 88 16).toInt ∧ (s1.1 88 16).toInt ≤ (s.1 88 15).toInt ∧ ((s1.1 88 16).toInt = b → ¬ f (seeV s1 (s1.1 88 16)) = 0)
theorem at_up {s1 : mG} {t : Int} (h : (s1.1 88 16).toInt < t) (ht : t ≤ 400) : (((mu s1.1 88 16 ((s1.1 88 16) + (ci 1)), s1.2) : mG).1 88 16).toInt = (s1.1 88 16).toInt + 1 := by
  rw [mu_sameP, t_up (by omega)]
theorem nx_letters {s s0 : mG} {b : Int} (h0 : P0 s) (hb : 0 ≤ b) (hsb : (s.1 88 16).toInt ≤ b) (h : IT s b isLV s0) : ok (F_X12_next0_L76 s0) (NX s) := by
  unfold F_X12_next0_L76
  refine ok_whl (fun v => IT s b isLV v) (fun v => mUp (v.1 88 16)) h (fun s1 hv => ?_)
  have h1 : IT s b isLV s1 := hv
  clear hv
  obtain ⟨hr, e18, hle, hlt, hne⟩ := h1
  have e15 : s1.1 88 15 = s.1 88 15 := hr.2 15 (by decide) (by decide) (by decide) (by decide)
  have i0 := h0.1
  show ok (F_X12_next0_B76 s1) _
  unfold F_X12_next0_B76
  rw [F_see (by rw [e15]; exact h0.1) (by omega), b1_some, F_isLetter, b1_some]
  refine ok_ite (fun c => ?_) (fun c => ?_)
  · have hgt : b < (s1.1 88 16).toInt := by
      by_cases q : (s1.1 88 16).toInt = b
      · exact absurd c (hne q)
      · omega
    refine ok_b1 (T_X12_word ⟨by omega, by omega, by omega⟩) (fun v51 _ => ?_)
    extract_lets +onlyGivenNames s52
    have g : RN s1 s52 := RN_mu (by omega)
    have g16 : s52.1 88 16 = s1.1 88 16 := mu_cellP (by omega)
    have g18 : s52.1 88 18 = s1.1 88 18 := mu_cellP (by omega)
    have g15 : s52.1 88 15 = s1.1 88 15 := mu_cellP (by omega)
    clear_value s52
    refine ok_some (lp_inr ⟨RN_tr hr g, ⟨by rw [g15, e15]; exact h0.1, by rw [g18]; omega, by rw [g18, g16]; omega, by rw [g16, g15, e15]; omega, fun _ => by rw [g18, g16]; omega⟩, by rw [g18]; omega⟩)
  · have hlt2 := see_lt isLV_m c
    rw [e15] at hlt2
    extract_lets +onlyGivenNames s53
    have g : RN s1 s53 := RN_mu (by omega)
    have g16 : (s53.1 88 16).toInt = (s1.1 88 16).toInt + 1 := at_up hlt2 (by omega)
    have gm : mUp (s53.1 88 16) < mUp (s1.1 88 16) := by unfold mUp; rw [g16]; omega
    have g18 : s53.1 88 18 = s1.1 88 18 := mu_cellP (by omega)
    clear_value s53
    exact ok_some (lp_inl (⟨RN_tr hr g, by rw [g18]; exact e18, by omega, by omega, fun q => by omega⟩ : IT s b isLV s53) gm)
theorem nx_digits {s s0 : mG} {b : Int} (h0 : P0 s) (hb : 0 ≤ b) (hsb : (s.1 88 16).toInt ≤ b) (h : IT s b (fun c => wi c (c8 48) (c8 57)) s0) : ok (F_X12_next0_L126 s0) (NX s) := by
  unfold F_X12_next0_L126
  refine ok_whl (fun v => IT s b (fun c => wi c (c8 48) (c8 57)) v) (fun v => mUp (v.1 88 16)) h (fun s1 hv => ?_)
  have h1 : IT s b (fun c => wi c (c8 48) (c8 57)) s1 := hv
  clear hv
  obtain ⟨hr, e18, hle, hlt, hne⟩ := h1
  have e15 : s1.1 88 15 = s.1 88 15 := hr.2 15 (by decide) (by decide) (by decide) (by decide)
  have i0 := h0.1
  show ok (F_X12_next0_B126 s1) _
  unfold F_X12_next0_B126
  rw [F_see (by rw [e15]; exact h0.1) (by omega), b1_some, F_isDigit, b1_some]
  refine ok_ite (fun c => ?_) (fun c => ?_)
  · have hgt : b < (s1.1 88 16).toInt := by
      by_cases q : (s1.1 88 16).toInt = b
      · exact absurd c (hne q)
      · omega
    have fin : ∀ y, ok (F_X12_next0_208 y s1) (NX s) := by
      intro y
      unfold F_X12_next0_208
      extract_lets +onlyGivenNames s52
      have g : RN s1 s52 := RN_mu (by omega)
      have g16 : s52.1 88 16 = s1.1 88 16 := mu_cellP (by omega)
      have g18 : s52.1 88 18 = s1.1 88 18 := mu_cellP (by omega)
      have g15 : s52.1 88 15 = s1.1 88 15 := mu_cellP (by omega)
      clear_value s52
      exact ok_some ⟨RN_tr hr g, ⟨by rw [g15, e15]; exact h0.1, by rw [g18]; omega, by rw [g18, g16]; omega, by rw [g16, g15, e15]; omega, fun _ => by rw [g18, g16]; omega⟩, by rw [g18]; omega⟩
    exact ok_ite (fun _ => ok_b1r (fin _)) (fun _ => ok_b1r (fin _))
  · have hlt2 := see_lt (f := fun c => wi c (c8 48) (c8 57)) isDV_m c
    rw [e15] at hlt2
    have fin : ∀ s2, RN s1 s2 → s2.1 88 16 = s1.1 88 16 → s2.1 88 18 = s1.1 88 18 → ok (F_X12_next0_176 s2) (lpost (fun v => IT s b (fun c => wi c (c8 48) (c8 57)) v) (fun v => mUp (v.1 88 16)) (mUp (s1.1 88 16)) (NX s)) := by
      intro s2 q1 q2 q3
      unfold F_X12_next0_176
      extract_lets +onlyGivenNames s53
      have g : RN s2 s53 := RN_mu (by omega)
      have g16 : (s53.1 88 16).toInt = (s1.1 88 16).toInt + 1 := by rw [← q2]; exact at_up (t := (s.1 88 15).toInt) (by rw [q2]; exact hlt2) (by omega)
      have gm : mUp (s53.1 88 16) < mUp (s1.1 88 16) := by unfold mUp; rw [g16]; omega
      have g18 : s53.1 88 18 = s2.1 88 18 := mu_cellP (by omega)
      clear_value s53
      exact ok_some (lp_inl (⟨RN_tr hr (RN_tr q1 g), by rw [g18, q3]; exact e18, by omega, by omega, fun q => by omega⟩ : IT s b (fun c => wi c (c8 48) (c8 57)) s53) gm)
    refine ok_ite (fun _ => fin s1 RN_refl rfl rfl) (fun _ => ?_)
    rw [b1_some]
    extract_lets +onlyGivenNames s44
    have g : RN s1 s44 := RN_mu (by omega)
    have g16 : s44.1 88 16 = s1.1 88 16 := mu_cellP (by omega)
    have g18 : s44.1 88 18 = s1.1 88 18 := mu_cellP (by omega)
    clear_value s44
    exact fin s44 g g16 g18
theorem T_X12_next0 {s : mG} (h0 : P0 s) : ok (F_X12_next0 s) (NX s) := by
  have i0 := h0.1
  have i1 := h0.2.1
  have i2 := h0.2.2
  unfold F_X12_next0 F_X12_next0_L0
  refine ok_whl (fun v => RN s v ∧ (s.1 88 16).toInt ≤ (v.1 88 16).toInt ∧ (v.1 88 16).toInt ≤ (s.1 88 15).toInt) (fun v => mUp (v.1 88 16)) ⟨RN_refl, by omega, by omega⟩ (fun s1 hv => ?_)
  obtain ⟨r1, r2, r3⟩ := hv
  have hr : RN s s1 := r1
  have h1 : (s.1 88 16).toInt ≤ (s1.1 88 16).toInt := r2
  have h2 : (s1.1 88 16).toInt ≤ (s.1 88 15).toInt := r3
  clear r1 r2 r3
  have e15 : s1.1 88 15 = s.1 88 15 := hr.2 15 (by decide) (by decide) (by decide) (by decide)
  have fs : ∀ s2 : mG, s2.1 88 15 = s.1 88 15 → s2.1 88 16 = s1.1 88 16 → F_X12_see s2 (s2.1 88 16) = some (seeV s2 (s2.1 88 16)) := fun s2 q1 q2 => F_see (by rw [q1]; exact h0.1) (by rw [q2]; omega)
  show ok (F_X12_next0_B0 s1) _
  unfold F_X12_next0_B0
  rw [fs s1 e15 rfl, b1_some]
  have blank : ∀ c, ¬ ci (-1) = c → seeV s1 (s1.1 88 16) = c → ok (F_X12_next0_26 s1) (lpost (fun v => RN s v ∧ (s.1 88 16).toInt ≤ (v.1 88 16).toInt ∧ (v.1 88 16).toInt ≤ (s.1 88 15).toInt) (fun v => mUp (v.1 88 16)) (mUp (s1.1 88 16)) (NX s)) := by
    intro c hc he
    have hlt := see_ne hc he
    rw [e15] at hlt
    unfold F_X12_next0_26
    extract_lets +onlyGivenNames s4
    have g : RN s1 s4 := RN_mu (by omega)
    have g16 : (s4.1 88 16).toInt = (s1.1 88 16).toInt + 1 := at_up hlt (by omega)
    have gm : mUp (s4.1 88 16) < mUp (s1.1 88 16) := by unfold mUp; rw [g16]; omega
    clear_value s4
    exact ok_some (lp_inl ⟨RN_tr hr g, by omega, by omega⟩ gm)
  refine ok_ite (fun c => blank _ (by decide) c) (fun _ => ?_)
  rw [b1_some]
  refine ok_ite (fun c => blank _ (by decide) c) (fun _ => ?_)
  extract_lets +onlyGivenNames s8
  have g : RN s1 s8 := RN_mu (by omega)
  have g16 : s8.1 88 16 = s1.1 88 16 := mu_cellP (by omega)
  have g18 : s8.1 88 18 = s1.1 88 16 := mu_sameP
  have g15 : s8.1 88 15 = s1.1 88 15 := mu_cellP (by omega)
  clear_value s8
  have hr8 : RN s s8 := RN_tr hr g
  rw [fs s8 (g15.trans e15) g16, b1_some]
  refine ok_ite (fun c => ?_) (fun c => ?_)
  · extract_lets +onlyGivenNames s12
    have k : RN s8 s12 := RN_mu (by omega)
    have k16 : s12.1 88 16 = s8.1 88 16 := mu_cellP (by omega)
    have k18 : s12.1 88 18 = s8.1 88 18 := mu_cellP (by omega)
    have k15 : s12.1 88 15 = s8.1 88 15 := mu_cellP (by omega)
    have k17 : s12.1 88 17 = ci 0 := mu_sameP
    clear_value s12
    exact ok_some (lp_inr ⟨RN_tr hr8 k, ⟨by rw [k15, g15, e15]; exact h0.1, by rw [k18, g18]; omega, by rw [k18, g18, k16, g16]; omega, by rw [k16, g16, k15, g15, e15]; exact h2, fun q => absurd (k17.trans (by decide)) q⟩, by rw [k18, g18]; exact h1⟩)
  · have hlt := see_m c
    rw [g16, g15, e15] at hlt
    rw [F_isLetter, b1_some]
    refine ok_ite (fun cl => ?_) (fun cl => ?_)
    · rw [F_isDigit, b1_some]
      refine ok_ite (fun cd => ?_) (fun cd => ?_)
      · extract_lets +onlyGivenNames s19
        have k : RN s8 s19 := RN_mu (by omega)
        have k16 : (s19.1 88 16).toInt = (s1.1 88 16).toInt + 1 := by rw [← g16]; exact at_up (t := (s.1 88 15).toInt) (by rw [g16]; exact hlt) (by omega)
        have k18 : s19.1 88 18 = s8.1 88 18 := mu_cellP (by omega)
        have k15 : s19.1 88 15 = s8.1 88 15 := mu_cellP (by omega)
        clear_value s19
        have fin3 : ∀ y, ok (F_X12_next0_303 y s19) (NX s) := by
          intro y
          unfold F_X12_next0_303
          extract_lets +onlyGivenNames s22
          have m : RN s19 s22 := RN_mu (by omega)
          have m16 : s22.1 88 16 = s19.1 88 16 := mu_cellP (by omega)
          have m18 : s22.1 88 18 = s19.1 88 18 := mu_cellP (by omega)
          have m15 : s22.1 88 15 = s19.1 88 15 := mu_cellP (by omega)
          clear_value s22
          exact ok_some ⟨RN_tr hr8 (RN_tr k m), ⟨by rw [m15, k15, g15, e15]; exact h0.1, by rw [m18, k18, g18]; omega, by rw [m18, k18, g18, m16]; omega, by rw [m16, m15, k15, g15, e15]; omega, fun _ => by rw [m18, k18, g18, m16]; omega⟩, by rw [m18, k18, g18]; exact h1⟩
        have fin2 : ∀ x y, ok (F_X12_next0_289 x y s19) (NX s) := by
          intro x y
          unfold F_X12_next0_289
          exact ok_ite (fun _ => fin3 _) (fun _ => fin3 _)
        have fin1 : ∀ x, ok (F_X12_next0_284 x s19) (NX s) := fun x => fin2 _ _
        repeat' (first | exact ok_b1r (fin1 _) | exact ok_b1r (fin2 _ _) | refine ok_ite (fun _ => ?_) (fun _ => ?_))
      · extract_lets +onlyGivenNames s32
        have k : RN s8 s32 := RN_mu (by omega)
        have k16 : s32.1 88 16 = s8.1 88 16 := mu_cellP (by omega)
        have k18 : s32.1 88 18 = s8.1 88 18 := mu_cellP (by omega)
        have k15 : s32.1 88 15 = s8.1 88 15 := mu_cellP (by omega)
        have k95 : s32.1 95 = s8.1 95 := mu_rowP (by decide)
        clear_value s32
        refine ok_b1r (nx_digits (b := (s1.1 88 16).toInt) h0 (by omega) h1 ⟨RN_tr hr8 k, by rw [k18, g18], by rw [k16, g16]; omega, by rw [k16, g16]; exact h2, fun _ => ?_⟩)
        unfold seeV
        rw [k15, k16, k95]
        exact cd
    · refine ok_b1r (nx_letters (b := (s1.1 88 16).toInt) h0 (by omega) h1 ⟨hr8, by rw [g18], by rw [g16]; omega, by rw [g16]; exact h2, fun _ => cl⟩)
