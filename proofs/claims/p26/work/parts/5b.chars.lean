noncomputable section
/-! SIGNS OF THE TAPE -/
theorem cle {x y : Int32} {a b : Nat} (hx : x = cn a) (hy : y = cn b) (ha : a < 2147483648) (hb : b < 2147483648) : x ≤ y ↔ a ≤ b := by
  subst hx; subst hy; exact cn_le ha hb
theorem clt {x y : Int32} {a b : Nat} (hx : x = cn a) (hy : y = cn b) (ha : a < 2147483648) (hb : b < 2147483648) : x < y ↔ a < b := by
  subst hx; subst hy; exact cn_lt ha hb
def lt2 (x : Int32) : Int32 := if x < c8 65 then ci 0 else if c8 90 < x then ci 0 else ci 1
def ltv (x : Int32) : Int32 := if x < c8 97 then lt2 x else if x ≤ c8 122 then ci 1 else lt2 x
def dgv (x : Int32) : Int32 := wi x (c8 48) (c8 57)
def bkv (x : Int32) : Int32 := if x = c8 32 then ci 1 else if x = c8 10 then ci 1 else ci 0
theorem V_isLetter {s : mG} {x : Int32} : F_X7_isLetter s x = some (ltv x) := by
  have h : F_X7_isLetter_12 s x = some (lt2 x) := by
    unfold F_X7_isLetter_12 F_X7_isLetter_28 F_X7_isLetter_24 lt2
    repeat' split
    all_goals rfl
  unfold F_X7_isLetter F_X7_isLetter_24 ltv
  rw [h]
  repeat' split
  all_goals rfl
theorem V_isLetter12 {s : mG} {x : Int32} : F_X12_isLetter s x = some (ltv x) := by
  unfold F_X12_isLetter F_X12_isLetter_22 ltv lt2
  rw [F_isIn, F_isIn, b1_some, b1_some]
  unfold wi
  by_cases h1 : x < c8 97
  · simp only [if_pos h1, show (ci 0 : Int32) = 0 by decide, if_true]
    by_cases h2 : x < c8 65
    · simp only [if_pos h2, if_true]
    · by_cases h3 : c8 90 < x
      · simp only [if_neg h2, if_pos h3, if_true]
      · simp only [if_neg h2, if_neg h3, show ¬ ci 1 = 0 by decide, if_false]
  · by_cases h2 : c8 122 < x
    · have h3 : ¬ x ≤ c8 122 := Int32.not_le.mpr h2
      simp only [if_neg h1, if_pos h2, if_neg h3, show (ci 0 : Int32) = 0 by decide, if_true]
      by_cases h4 : x < c8 65
      · simp only [if_pos h4, if_true]
      · by_cases h5 : c8 90 < x
        · simp only [if_neg h4, if_pos h5, if_true]
        · simp only [if_neg h4, if_neg h5, show ¬ ci 1 = 0 by decide, if_false]
    · have h3 : x ≤ c8 122 := Int32.not_lt.mp h2
      simp only [if_neg h1, if_neg h2, if_pos h3, show ¬ ci 1 = 0 by decide, if_false]
theorem V_isDigit {s : mG} {x : Int32} : F_X7_isDigit s x = some (dgv x) := by
  unfold F_X7_isDigit F_X7_isDigit_16 dgv wi
  repeat' split
  all_goals rfl
theorem V_isDigit12 {s : mG} {x : Int32} : F_X12_isDigit s x = some (dgv x) := by
  unfold F_X12_isDigit
  rw [F_isIn, b1_some]
  exact if_pos (wi_b _ _ _)
theorem V_isBlank {s : mG} {x : Int32} : F_X7_isBlank s x = some (bkv x) := by
  unfold F_X7_isBlank F_X7_isBlank_12 bkv
  repeat' split
  all_goals rfl
theorem lt2_b (x : Int32) : PB (lt2 x) := by
  unfold lt2
  repeat' split
  all_goals first
    | exact pb0
    | exact pb1
theorem ltv_b (x : Int32) : PB (ltv x) := by
  unfold ltv
  repeat' split
  all_goals first
    | exact lt2_b _
    | exact pb1
theorem dgv_b (x : Int32) : PB (dgv x) := wi_b _ _ _
theorem bkv_b (x : Int32) : PB (bkv x) := by
  unfold bkv
  repeat' split
  all_goals first
    | exact pb0
    | exact pb1
theorem ltv_f {x : Int32} (h : ¬ ltv x = 0) : (97 ≤ x.toInt ∧ x.toInt ≤ 122) ∨ (65 ≤ x.toInt ∧ x.toInt ≤ 90) := by
  have z : (ci 0 : Int32) = 0 := by decide
  have l2 : ¬ lt2 x = 0 → (65 ≤ x.toInt ∧ x.toInt ≤ 90) := fun h => by
    unfold lt2 at h
    by_cases h1 : x < c8 65
    · rw [if_pos h1] at h; exact absurd z h
    · rw [if_neg h1] at h
      by_cases h2 : c8 90 < x
      · rw [if_pos h2] at h; exact absurd z h
      · exact ⟨r_nlt rfl (by decide : (c8 65).toInt = 65) h1, r_nlt (by decide : (c8 90).toInt = 90) rfl h2⟩
  unfold ltv at h
  by_cases h1 : x < c8 97
  · rw [if_pos h1] at h; exact Or.inr (l2 h)
  · rw [if_neg h1] at h
    by_cases h2 : x ≤ c8 122
    · exact Or.inl ⟨r_nlt rfl (by decide : (c8 97).toInt = 97) h1, r_le rfl (by decide : (c8 122).toInt = 122) h2⟩
    · rw [if_neg h2] at h; exact Or.inr (l2 h)
theorem dgv_f {x : Int32} (h : ¬ dgv x = 0) : 48 ≤ x.toInt ∧ x.toInt ≤ 57 := by
  have q := wi_f h
  rw [show (c8 48).toInt = 48 by decide, show (c8 57).toInt = 57 by decide] at q
  exact q
theorem ltv_dgv {x : Int32} (h : ¬ ltv x = 0) : dgv x = 0 := by
  refine (dgv_b x).resolve_right fun e => ?_
  have h1 := ltv_f h
  have h2 := dgv_f (x := x) (by rw [e]; decide)
  omega
theorem lt2_m1 : ltv (ci (-1)) = 0 := by decide
theorem dgv_m1 : dgv (ci (-1)) = 0 := by decide
/-- the longest row of such signs from a on -/
def Run (P : Int32 → Int32) (T : Nat → Int32) (len a b : Nat) : Prop := a ≤ b ∧ b ≤ len ∧ (∀ k, a ≤ k → k < b → ¬ P (T k) = 0) ∧ (b = len ∨ P (T b) = 0)
theorem Run_one {P : Int32 → Int32} {T : Nat → Int32} {len a b c : Nat} (h : Run P T len a b) (k : Run P T len a c) : b = c := by
  obtain ⟨h1, h2, h3, h4⟩ := h
  obtain ⟨k1, k2, k3, k4⟩ := k
  rcases Nat.lt_trichotomy b c with q | q | q
  · rcases h4 with e | e
    · omega
    · exact absurd e (k3 b h1 q)
  · exact q
  · rcases k4 with e | e
    · omega
    · exact absurd e (h3 c k1 q)
/-- a token: from where one reads (p), where it begins, where it ends -/
def Tok (T : Nat → Int32) (len p a b : Nat) : Prop := Run bkv T len p a ∧ ((a = len ∧ b = len) ∨ (a < len ∧ ((¬ ltv (T a) = 0 ∧ Run ltv T len a b) ∨ (ltv (T a) = 0 ∧ ¬ dgv (T a) = 0 ∧ Run dgv T len a b) ∨ (ltv (T a) = 0 ∧ dgv (T a) = 0 ∧ b = a + 1))))
theorem Tok_one {T : Nat → Int32} {len p a b c d : Nat} (h : Tok T len p a b) (k : Tok T len p c d) : a = c ∧ b = d := by
  obtain ⟨h1, h2⟩ := h
  obtain ⟨k1, k2⟩ := k
  have e := Run_one h1 k1
  subst e
  refine ⟨rfl, ?_⟩
  rcases h2 with ⟨q1, q2⟩ | ⟨q1, q2⟩
  · rcases k2 with ⟨r1, r2⟩ | ⟨r1, r2⟩
    · omega
    · omega
  · rcases k2 with ⟨r1, r2⟩ | ⟨r1, r2⟩
    · omega
    · rcases q2 with ⟨x1, x2⟩ | ⟨x1, x2, x3⟩ | ⟨x1, x2, x3⟩ <;> rcases r2 with ⟨y1, y2⟩ | ⟨y1, y2, y3⟩ | ⟨y1, y2, y3⟩
      · exact Run_one x2 y2
      · exact absurd y1 x1
      · exact absurd y1 x1
      · exact absurd x1 y1
      · exact Run_one x3 y3
      · exact absurd y2 x2
      · exact absurd x1 y1
      · exact absurd x2 y2
      · omega
theorem Tok_lt {T : Nat → Int32} {len p a b : Nat} (h : Tok T len p a b) (ha : a < len) : a < b ∧ b ≤ len := by
  obtain ⟨_, h2⟩ := h
  rcases h2 with ⟨q1, q2⟩ | ⟨q1, ⟨x1, x2, x3, x4, x5⟩ | ⟨x1, x2, x3, x4, x5, x6⟩ | ⟨x1, x2, x3⟩⟩
  · omega
  · rcases x5 with e | e
    · omega
    · refine ⟨?_, x3⟩
      rcases Nat.lt_or_ge a b with q | q
      · exact q
      · have : a = b := by omega
        subst this; exact absurd e x1
  · rcases x6 with e | e
    · omega
    · refine ⟨?_, x4⟩
      rcases Nat.lt_or_ge a b with q | q
      · exact q
      · have : a = b := by omega
        subst this; exact absurd e x2
  · omega
/-- the number that the digits say -/
def nv (T : Nat → Int32) (a : Nat) : Nat → Int32
  | 0 => ci 0
  | k + 1 => ((nv T a k * c8 10) + T (a + k)) - c8 48
/-- the class's kind of a token -/
def KC (T : Nat → Int32) (a b : Nat) (kc : Int32) : Prop :=
  (¬ ltv (T a) = 0 ∧ ((∃ w, isWd T a b w ∧ kc = c16 256 + cn w) ∨ ((∀ w, ¬ isWd T a b w) ∧ kc = c8 (-3)))) ∨
  (ltv (T a) = 0 ∧ ¬ dgv (T a) = 0 ∧ ((b - a ≤ 4 ∧ kc = c8 (-2)) ∨ (4 < b - a ∧ kc = c8 (-3)))) ∨
  (ltv (T a) = 0 ∧ dgv (T a) = 0 ∧ kc = T a)
/-! the class cuts the tape -/
/-- what stays while it is cut -/
def RDs (T : Nat → Int32) (len : Nat) (s : mG) : Prop := s.1 64 = T ∧ s.1 55 9 = cn len ∧ len ≤ 400
def RFr (s0 s : mG) : Prop := s.2 = s0.2 ∧ (∀ j, j ≠ 55 → j ≠ 65 → j ≠ 66 → s.1 j = s0.1 j) ∧ (∀ c, c ≠ 13 → s.1 55 c = s0.1 55 c)
theorem V_skipBlanks {T : Nat → Int32} {len p : Nat} {s : mG} (hR : RDs T len s) (hp : s.1 55 13 = cn p) (hpl : p ≤ len) : pk (F_X7_skipBlanks s) (fun τ => ∃ a, Run bkv T len p a ∧ τ.1 = (if a = len then ci 0 else ci 1) ∧ τ.2 = (mu s.1 55 13 (cn a), s.2)) := by
  obtain ⟨hT, hl, hb⟩ := hR
  unfold F_X7_skipBlanks F_X7_skipBlanks_L0
  have self : s = (mu s.1 55 13 (cn p), s.2) := by
    refine Prod.ext ?_ rfl
    funext i k
    show s.1 i k = mu s.1 55 13 (cn p) i k
    rw [mu_ap]
    by_cases h : i = 55 ∧ k = 13
    · rw [if_pos h, h.1, h.2, hp]
    · rw [if_neg h]
  refine pk_whl (fun v => ∃ a, p ≤ a ∧ a ≤ len ∧ (∀ k, p ≤ k → k < a → ¬ bkv (T k) = 0) ∧ v = (mu s.1 55 13 (cn a), s.2)) ⟨p, Nat.le_refl _, hpl, fun k h1 h2 => absurd h1 (by omega), self⟩ (fun v hv => ?_)
  obtain ⟨a, g1, g2, g3, g4⟩ := hv
  subst g4
  have e13 : (mu s.1 55 13 (cn a), s.2).1 55 13 = cn a := mu_sameP
  have e9 : (mu s.1 55 13 (cn a), s.2).1 55 9 = cn len := (mu_cellP (by omega)).trans hl
  have e64 : (mu s.1 55 13 (cn a), s.2).1 64 = T := (mu_rowP (by omega)).trans hT
  have fin : ∀ w : Int32, w = (if a = len then ci 0 else ci 1) → (a = len ∨ bkv (T a) = 0) → pk (some (w, ((mu s.1 55 13 (cn a), s.2) : mG))) (fun τ => ∃ a, Run bkv T len p a ∧ τ.1 = (if a = len then ci 0 else ci 1) ∧ τ.2 = (mu s.1 55 13 (cn a), s.2)) := fun w e q => pk_some ⟨a, ⟨g1, g2, g3, q⟩, e, rfl⟩
  unfold F_X7_skipBlanks_B0 F_X7_skipBlanks_41
  rw [e13, e9]
  by_cases hal : len ≤ a
  · rw [if_pos ((cn_le (by omega) (by omega)).mpr hal), if_pos ((cn_le (by omega) (by omega)).mpr hal)]
    exact pk_b1r (fin _ (by rw [if_pos (by omega)]) (Or.inl (by omega)))
  · have hn : ¬ cn len ≤ cn a := fun q => hal ((cn_le (by omega) (by omega)).mp q)
    rw [if_neg hn, if_neg hn, V_cell64 (by omega), b1_some, V_isBlank, b1_some, e64]
    by_cases hk : bkv (T a) = 0
    · rw [if_pos hk]
      exact pk_b1r (fin _ (by rw [if_neg (by omega)]) (Or.inr hk))
    · rw [if_neg hk, cnu (by omega)]
      refine pk_some (show ∃ _, _ from ⟨a + 1, by omega, by omega, fun k h1 h2 => ?_, ?_⟩)
      · by_cases hka : k = a
        · subst hka; exact hk
        · exact g3 k h1 (by omega)
      · refine Prod.ext ?_ rfl
        funext i k
        show mu (mu s.1 55 13 (cn a)) 55 13 (cn (a + 1)) i k = mu s.1 55 13 (cn (a + 1)) i k
        rw [mu_ap, mu_ap, mu_ap]
        by_cases h : i = 55 ∧ k = 13
        · rw [if_pos h, if_pos h]
        · rw [if_neg h, if_neg h, if_neg h]
/-- the tokens' table, m rows long -/
def TT (m : Nat) (s : mG) : Prop := s.1 65 0 = cn 401 ∧ s.1 65 1 = cn 3 ∧ s.1 65 3 = cn m
theorem al_66 : m_alen (65 + 1) = 1203 := by decide +kernel
theorem V_addToken {s : mG} {k n p : Int32} {m : Nat} (h : TT m s) (hm : m < 401) : F_X7_addToken k n p s = some (mu (mu (mu (mu s.1 65 3 (cn (m + 1))) 66 (m * 3 + 0) k) 66 (m * 3 + 1) n) 66 (m * 3 + 2) p, s.2) := by
  obtain ⟨h0, h1, h3⟩ := h
  unfold F_X7_addToken
  rw [V_add h0 h3 (by decide) hm, b2_some]
  have w : ∀ D : Nat → Nat → Int32, (∀ j, D 65 j = mu s.1 65 3 (cn (m + 1)) 65 j) → ((D, s.2) : mG).1 65 1 = cn 3 ∧ ((D, s.2) : mG).1 65 3 = cn (m + 1) := fun D e => ⟨(e 1).trans ((mu_cell (by omega)).trans h1), (e 3).trans mu_same⟩
  have w1 := w (mu s.1 65 3 (cn (m + 1))) (fun _ => rfl)
  rw [V_put (a2 := ci 0) (r := m) (c := 0) (n := m + 1) (W := 3) rfl rfl w1.1 w1.2 (by omega) (by omega) (by rw [al_66]; omega) (by omega), b1_some]
  have w2 := w (mu (mu s.1 65 3 (cn (m + 1))) (65 + 1) (m * 3 + 0) k) (fun j => congrFun (mu_row (by omega)) j)
  rw [V_put (a2 := ci 1) (r := m) (c := 1) (n := m + 1) (W := 3) rfl rfl w2.1 w2.2 (by omega) (by omega) (by rw [al_66]; omega) (by omega), b1_some]
  have w3 := w (mu (mu (mu s.1 65 3 (cn (m + 1))) (65 + 1) (m * 3 + 0) k) (65 + 1) (m * 3 + 1) n) (fun j => (congrFun (mu_row (by omega)) j).trans (congrFun (mu_row (by omega)) j))
  rw [V_put (a2 := ci 2) (r := m) (c := 2) (n := m + 1) (W := 3) rfl rfl w3.1 w3.2 (by omega) (by omega) (by rw [al_66]; omega) (by omega), b1_some]
/-- a token is added: behind place b -/
def ADo (m a b : Nat) (k n : Int32) (s u : mG) : Prop := u.2 = s.2 ∧ u.1 = mu (mu (mu (mu (mu s.1 55 13 (cn b)) 65 3 (cn (m + 1))) 66 (m * 3 + 0) k) 66 (m * 3 + 1) n) 66 (m * 3 + 2) (cn a)
theorem mu_two {D : Nat → Nat → Int32} {i k : Nat} {v w : Int32} : mu (mu D i k v) i k w = mu D i k w := by
  funext a b
  rw [mu_ap, mu_ap, mu_ap]
  by_cases h : a = i ∧ b = k
  · rw [if_pos h, if_pos h]
  · rw [if_neg h, if_neg h, if_neg h]
theorem mu_id {D : Nat → Nat → Int32} {i k : Nat} {v : Int32} (h : D i k = v) : mu D i k v = D := by
  funext a b
  rw [mu_ap]
  by_cases q : a = i ∧ b = k
  · rw [if_pos q, q.1, q.2, h]
  · rw [if_neg q]
theorem TT_13 {m : Nat} {s : mG} {v : Int32} (h : TT m s) : TT m (mu s.1 55 13 v, s.2) := by
  obtain ⟨h0, h1, h3⟩ := h
  exact ⟨(congrFun (mu_rowP (by omega)) 0).trans h0, (congrFun (mu_rowP (by omega)) 1).trans h1, (congrFun (mu_rowP (by omega)) 3).trans h3⟩
theorem V_splitWord {T : Nat → Int32} {len a m : Nat} {s : mG} (hR : RDs T len s) (hp : s.1 55 13 = cn a) (ha : a < len) (hm : m < 401) (hTT : TT m s) (hl : ¬ ltv (T a) = 0) : pk (F_X7_splitWord s) (fun u => ∃ b k, Run ltv T len a b ∧ KC T a b k ∧ ADo m a b k (ci 0) s u) := by
  obtain ⟨hT, hlen, hb⟩ := hR
  unfold F_X7_splitWord F_X7_splitWord_L5
  rw [hp]
  refine pk_whl (fun v => v.1 = cn a ∧ ∃ b, a ≤ b ∧ b ≤ len ∧ (∀ k, a ≤ k → k < b → ¬ ltv (T k) = 0) ∧ v.2 = (mu s.1 55 13 (cn b), s.2)) ⟨rfl, a, Nat.le_refl _, by omega, fun k h1 h2 => absurd h1 (by omega), by rw [mu_id hp]⟩ (fun v hv => ?_)
  obtain ⟨x1, u⟩ := v
  obtain ⟨g0, b, g1, g2, g3, g4⟩ := hv
  have g0 : x1 = cn a := g0
  have g4 : u = (mu s.1 55 13 (cn b), s.2) := g4
  subst g0; subst g4
  have e13 : (mu s.1 55 13 (cn b), s.2).1 55 13 = cn b := mu_sameP
  have e9 : (mu s.1 55 13 (cn b), s.2).1 55 9 = cn len := (mu_cellP (by omega)).trans hlen
  have e64 : (mu s.1 55 13 (cn b), s.2).1 64 = T := (mu_rowP (by omega)).trans hT
  have fin : (b = len ∨ ltv (T b) = 0) → pk (F_X7_splitWord_46 (cn a) (mu s.1 55 13 (cn b), s.2)) (fun u => ∃ b k, Run ltv T len a b ∧ KC T a b k ∧ ADo m a b k (ci 0) s u) := by
    intro q
    unfold F_X7_splitWord_46 F_X7_splitWord_68
    refine pk_b1 (V_wordNumber e64 e13 g1 (by omega)) (fun v3 h3 => ?_)
    rw [V_addToken (TT_13 hTT) hm, V_addToken (TT_13 hTT) hm, b1_some, b1_some]
    rcases h3 with ⟨w, e, h3⟩ | ⟨e, h3⟩
    · subst e
      have hw := h3.1
      rw [if_neg (by
        intro e
        have := r_eq (t_cn (n := w) (by omega)) t_cm1 e
        omega)]
      exact pk_some ⟨b, _, ⟨g1, g2, g3, q⟩, Or.inl ⟨hl, Or.inl ⟨w, h3, rfl⟩⟩, rfl, rfl⟩
    · subst e
      rw [if_pos rfl]
      exact pk_some ⟨b, _, ⟨g1, g2, g3, q⟩, Or.inl ⟨hl, Or.inr ⟨h3, rfl⟩⟩, rfl, rfl⟩
  unfold F_X7_splitWord_B5
  rw [e13, e9]
  by_cases hal : len ≤ b
  · rw [if_pos ((cn_le (by omega) (by omega)).mpr hal)]
    exact pk_b1r (fin (Or.inl (by omega)))
  · rw [if_neg (fun q => hal ((cn_le (by omega) (by omega)).mp q)), V_cell64 (by omega), b1_some, V_isLetter, b1_some, e64]
    by_cases hk : ltv (T b) = 0
    · rw [if_pos hk]
      exact pk_b1r (fin (Or.inr hk))
    · rw [if_neg hk, cnu (by omega)]
      refine pk_some (show _ ∧ _ from ⟨rfl, b + 1, by omega, by omega, fun k h1 h2 => ?_, by rw [mu_two]⟩)
      by_cases hka : k = b
      · subst hka; exact hk
      · exact g3 k h1 (by omega)
theorem V_splitNumber {T : Nat → Int32} {len a m : Nat} {s : mG} (hR : RDs T len s) (hp : s.1 55 13 = cn a) (ha : a < len) (hm : m < 401) (hTT : TT m s) (hl : ltv (T a) = 0) (hd : ¬ dgv (T a) = 0) : pk (F_X7_splitNumber s) (fun u => ∃ b k n, Run dgv T len a b ∧ KC T a b k ∧ (b - a ≤ 4 → n = nv T a (b - a)) ∧ ADo m a b k n s u) := by
  obtain ⟨hT, hlen, hb⟩ := hR
  unfold F_X7_splitNumber F_X7_splitNumber_L7
  rw [hp]
  refine pk_whl (fun v => v.1 = cn a ∧ ∃ b, a ≤ b ∧ b ≤ len ∧ (∀ k, a ≤ k → k < b → ¬ dgv (T k) = 0) ∧ (b - a ≤ 4 → v.2.1 = nv T a (b - a)) ∧ v.2.2 = (mu s.1 55 13 (cn b), s.2)) ⟨rfl, a, Nat.le_refl _, by omega, fun k h1 h2 => absurd h1 (by omega), fun _ => by rw [Nat.sub_self]; rfl, by rw [mu_id hp]⟩ (fun v hv => ?_)
  obtain ⟨x1, x2, u⟩ := v
  obtain ⟨g0, b, g1, g2, g3, g5, g4⟩ := hv
  have g0 : x1 = cn a := g0
  have g5 : b - a ≤ 4 → x2 = nv T a (b - a) := g5
  have g4 : u = (mu s.1 55 13 (cn b), s.2) := g4
  subst g0; subst g4
  have e13 : (mu s.1 55 13 (cn b), s.2).1 55 13 = cn b := mu_sameP
  have e9 : (mu s.1 55 13 (cn b), s.2).1 55 9 = cn len := (mu_cellP (by omega)).trans hlen
  have e64 : (mu s.1 55 13 (cn b), s.2).1 64 = T := (mu_rowP (by omega)).trans hT
  have fin : (b = len ∨ dgv (T b) = 0) → pk (F_X7_splitNumber_82 (cn a) x2 (mu s.1 55 13 (cn b), s.2)) (fun u => ∃ b k n, Run dgv T len a b ∧ KC T a b k ∧ (b - a ≤ 4 → n = nv T a (b - a)) ∧ ADo m a b k n s u) := by
    intro q
    unfold F_X7_splitNumber_82 F_X7_splitNumber_100
    rw [V_addToken (TT_13 hTT) hm, V_addToken (TT_13 hTT) hm, b1_some, b1_some, e13, cn_sub g1 (by omega)]
    by_cases h4 : b - a ≤ 4
    · rw [if_pos ((cle (x := cn (b - a)) (y := ci 4) (b := 4) rfl rfl (by omega) (by omega)).mpr h4)]
      exact pk_some ⟨b, _, x2, ⟨g1, g2, g3, q⟩, Or.inr (Or.inl ⟨hl, hd, Or.inl ⟨h4, rfl⟩⟩), g5, rfl, rfl⟩
    · rw [if_neg (fun z => h4 ((cle (x := cn (b - a)) (y := ci 4) (b := 4) rfl rfl (by omega) (by omega)).mp z))]
      exact pk_some ⟨b, _, x2, ⟨g1, g2, g3, q⟩, Or.inr (Or.inl ⟨hl, hd, Or.inr ⟨by omega, rfl⟩⟩), g5, rfl, rfl⟩
  unfold F_X7_splitNumber_B7 F_X7_splitNumber_68
  rw [e13, e9]
  by_cases hal : len ≤ b
  · rw [if_pos ((cn_le (by omega) (by omega)).mpr hal)]
    exact pk_b1r (fin (Or.inl (by omega)))
  · rw [if_neg (fun q => hal ((cn_le (by omega) (by omega)).mp q)), V_cell64 (by omega), b1_some, V_isDigit, b1_some, e64]
    by_cases hk : dgv (T b) = 0
    · rw [if_pos hk]
      exact pk_b1r (fin (Or.inr hk))
    · rw [if_neg hk, cn_sub g1 (by omega), cnu (by omega)]
      have run : ∀ k, a ≤ k → k < b + 1 → ¬ dgv (T k) = 0 := fun k h1 h2 => by
        by_cases hka : k = b
        · subst hka; exact hk
        · exact g3 k h1 (by omega)
      by_cases h4 : 4 ≤ b - a
      · rw [if_pos ((cle (x := ci 4) (a := 4) (y := cn (b - a)) rfl rfl (by omega) (by omega)).mpr h4)]
        exact pk_some (show _ ∧ _ from ⟨rfl, b + 1, by omega, by omega, run, fun z => absurd z (by omega), by rw [mu_two]⟩)
      · rw [if_neg (fun z => h4 ((cle (x := ci 4) (a := 4) (y := cn (b - a)) rfl rfl (by omega) (by omega)).mp z)), b1_some]
        refine pk_some (show _ ∧ _ from ⟨rfl, b + 1, by omega, by omega, run, fun z => ?_, by rw [mu_two]⟩)
        show ((x2 * c8 10) + T b) - c8 48 = _
        rw [show x2 = nv T a (b - a) from g5 (by omega), show b + 1 - a = (b - a) + 1 by omega]
        show _ = ((nv T a (b - a) * c8 10) + T (a + (b - a))) - c8 48
        rw [show a + (b - a) = b by omega]
/-- the first m tokens stand: B says where each ends -/
def TKS (T : Nat → Int32) (len m : Nat) (B : Nat → Nat) (s : mG) : Prop := ∀ i, i < m → ∃ a, Tok T len (B i) a (B (i + 1)) ∧ a < len ∧ KC T a (B (i + 1)) (s.1 66 (i * 3 + 0)) ∧ (¬ dgv (T a) = 0 → B (i + 1) - a ≤ 4 → s.1 66 (i * 3 + 1) = nv T a (B (i + 1) - a)) ∧ s.1 66 (i * 3 + 2) = cn a
theorem ADo_TT {m a b : Nat} {k n : Int32} {s u : mG} (h : TT m s) (hA : ADo m a b k n s u) : TT (m + 1) u := by
  obtain ⟨h0, h1, h3⟩ := h
  obtain ⟨_, e⟩ := hA
  have r : u.1 65 = mu (mu s.1 55 13 (cn b)) 65 3 (cn (m + 1)) 65 := by
    rw [e, mu_row (by omega), mu_row (by omega), mu_row (by omega)]
  refine ⟨?_, ?_, ?_⟩
  · rw [r, mu_cell (by omega), mu_row (by omega)]; exact h0
  · rw [r, mu_cell (by omega), mu_row (by omega)]; exact h1
  · rw [r, mu_same]
theorem ADo_fr {m a b : Nat} {k n : Int32} {s u : mG} (hA : ADo m a b k n s u) : (∀ j, j ≠ 55 → j ≠ 65 → j ≠ 66 → u.1 j = s.1 j) ∧ (∀ c, c ≠ 13 → u.1 55 c = s.1 55 c) ∧ u.1 55 13 = cn b := by
  obtain ⟨_, e⟩ := hA
  refine ⟨fun j h1 h2 h3 => ?_, fun c hc => ?_, ?_⟩
  · rw [e, mu_row h3, mu_row h3, mu_row h3, mu_row h2, mu_row h1]
  · rw [e, mu_row (by omega), mu_row (by omega), mu_row (by omega), mu_row (by omega), mu_cell (Or.inr hc)]
  · rw [e, mu_row (by omega), mu_row (by omega), mu_row (by omega), mu_row (by omega), mu_same]
theorem ADo_66 {m a b : Nat} {k n : Int32} {s u : mG} (hA : ADo m a b k n s u) : (∀ i c, i < m → c < 3 → u.1 66 (i * 3 + c) = s.1 66 (i * 3 + c)) ∧ u.1 66 (m * 3 + 0) = k ∧ u.1 66 (m * 3 + 1) = n ∧ u.1 66 (m * 3 + 2) = cn a := by
  obtain ⟨_, e⟩ := hA
  refine ⟨fun i c hi hc => ?_, ?_, ?_, ?_⟩
  · rw [e, mu_cell (by omega), mu_cell (by omega), mu_cell (by omega), mu_row (by omega), mu_row (by omega)]
  · rw [e, mu_cell (by omega), mu_cell (by omega), mu_same]
  · rw [e, mu_cell (by omega), mu_same]
  · rw [e, mu_same]
theorem TKS_add {T : Nat → Int32} {len m a b : Nat} {B : Nat → Nat} {k n : Int32} {s u : mG} (h : TKS T len m B s) (hA : ADo m a b k n s u) (ht : Tok T len (B m) a b) (ha : a < len) (hk : KC T a b k) (hn : ¬ dgv (T a) = 0 → b - a ≤ 4 → n = nv T a (b - a)) : TKS T len (m + 1) (fun i => if i = m + 1 then b else B i) u := by
  obtain ⟨q1, q2, q3, q4⟩ := ADo_66 hA
  intro i hi
  by_cases him : i = m
  · subst him
    refine ⟨a, ?_, ha, ?_, fun x y => ?_, q4⟩
    · simp only [if_true, if_neg (show ¬ i = i + 1 by omega)]; exact ht
    · simp only [if_true]; rw [q2]; exact hk
    · simp only [if_true] at y ⊢; rw [q3]; exact hn x y
  · obtain ⟨a', z1, z2, z3, z4, z5⟩ := h i (by omega)
    refine ⟨a', ?_, z2, ?_, fun x y => ?_, ?_⟩
    · simp only [if_neg (show ¬ i = m + 1 by omega), if_neg (show ¬ i + 1 = m + 1 by omega)]; exact z1
    · simp only [if_neg (show ¬ i + 1 = m + 1 by omega)]; rw [q1 i 0 (by omega) (by omega)]; exact z3
    · simp only [if_neg (show ¬ i + 1 = m + 1 by omega)] at y ⊢; rw [q1 i 1 (by omega) (by omega)]; exact z4 x y
    · rw [q1 i 2 (by omega) (by omega)]; exact z5
/-- all tokens stand -/
def TKA (T : Nat → Int32) (len m : Nat) (B : Nat → Nat) (s : mG) : Prop := m ≤ 400 ∧ B 0 = 0 ∧ TT (m + 1) s ∧ TKS T len m B s ∧ s.1 66 (m * 3 + 0) = ci (-1) ∧ s.1 66 (m * 3 + 2) = cn len ∧ Run bkv T len (B m) len
theorem V_splitTape {T : Nat → Int32} {len : Nat} {s : mG} (hR : RDs T len s) (h65 : s.1 65 0 = cn 401 ∧ s.1 65 1 = cn 3) : pk (F_X7_splitTape s) (fun u => (∃ m B, TKA T len m B u) ∧ RFr s u) := by
  obtain ⟨hT, hlen, hb⟩ := hR
  unfold F_X7_splitTape F_X10_clear
  dsimp only
  rw [b1_some]
  unfold F_X7_splitTape_L14
  refine pk_whl (fun v => ∃ m B, v.1 = cn m ∧ m ≤ 400 ∧ B 0 = 0 ∧ m ≤ B m ∧ B m ≤ len ∧ v.2.1 55 13 = cn (B m) ∧ TT m v.2 ∧ TKS T len m B v.2 ∧ RFr s v.2) ⟨0, fun _ => 0, rfl, by omega, rfl, Nat.le_refl _, Nat.zero_le _, mu_sameP, ⟨?_, ?_, ?_⟩, fun i hi => absurd hi (by omega), rfl, fun j h1 h2 h3 => (mu_rowP h1).trans (mu_rowP h2), fun c hc => (mu_cellP (Or.inr hc)).trans (congrFun (mu_rowP (by omega)) c)⟩ (fun v hv => ?_)
  · exact (congrFun (mu_rowP (by omega)) 0).trans ((mu_cellP (by omega)).trans h65.1)
  · exact (congrFun (mu_rowP (by omega)) 1).trans ((mu_cellP (by omega)).trans h65.2)
  · exact (congrFun (mu_rowP (by omega)) 3).trans mu_sameP
  obtain ⟨x1, u⟩ := v
  obtain ⟨m, B, g0, g1, g2, g3, g4, g5, g6, g7, g8⟩ := hv
  have g0 : x1 = cn m := g0
  have g5 : u.1 55 13 = cn (B m) := g5
  have g6 : TT m u := g6
  have g7 : TKS T len m B u := g7
  obtain ⟨f1, f2, f3⟩ : RFr s u := g8
  subst g0
  have uT : u.1 64 = T := (f2 64 (by decide) (by decide) (by decide)).trans hT
  have u9 : u.1 55 9 = cn len := (f3 9 (by decide)).trans hlen
  -- the end
  have fin : ∀ w : mG, w.2 = u.2 → (∃ p, w.1 = mu u.1 55 13 p) → Run bkv T len (B m) len → pk (F_X7_splitTape_94 w) (fun u => (∃ m B, TKA T len m B u) ∧ RFr s u) := by
    intro w hw2 hw1 hr
    obtain ⟨p, hw1⟩ := hw1
    have ew : w = (mu u.1 55 13 p, u.2) := Prod.ext hw1 hw2
    subst ew
    unfold F_X7_splitTape_94
    have w9 : (mu u.1 55 13 p, u.2).1 55 9 = cn len := (mu_cellP (by omega)).trans u9
    rw [w9, V_addToken (TT_13 g6) (by omega), b1_some]
    have r : ∀ i c, i < m → c < 3 → mu (mu (mu (mu (mu u.1 55 13 p) 65 3 (cn (m + 1))) 66 (m * 3 + 0) (ci (-1))) 66 (m * 3 + 1) (ci 0)) 66 (m * 3 + 2) (cn len) 66 (i * 3 + c) = u.1 66 (i * 3 + c) := fun i c hi hc => by
      rw [mu_cell (by omega), mu_cell (by omega), mu_cell (by omega), mu_row (by omega), mu_row (by omega)]
    refine pk_some ⟨⟨m, B, g1, g2, ⟨?_, ?_, ?_⟩, fun i hi => ?_, ?_, ?_, hr⟩, f1, fun j h1 h2 h3 => ?_, fun c hc => ?_⟩
    all_goals try dsimp only
    · rw [mu_row (by omega), mu_row (by omega), mu_row (by omega), mu_cell (by omega), mu_row (by omega)]; exact g6.1
    · rw [mu_row (by omega), mu_row (by omega), mu_row (by omega), mu_cell (by omega), mu_row (by omega)]; exact g6.2.1
    · rw [mu_row (by omega), mu_row (by omega), mu_row (by omega), mu_same]
    · obtain ⟨a', z1, z2, z3, z4, z5⟩ := g7 i hi
      exact ⟨a', z1, z2, by rw [show _ = _ from r i 0 hi (by omega)]; exact z3, fun x y => (r i 1 hi (by omega)).trans (z4 x y), (r i 2 hi (by omega)).trans z5⟩
    · rw [mu_cell (by omega), mu_cell (by omega), mu_same]
    · rw [mu_same]
    · rw [mu_row h3, mu_row h3, mu_row h3, mu_row h2, mu_row h1]; exact f2 j h1 h2 h3
    · rw [mu_row (by omega), mu_row (by omega), mu_row (by omega), mu_row (by omega), mu_cell (Or.inr hc)]; exact f3 c hc
  unfold F_X7_splitTape_B14
  by_cases h400 : 400 ≤ m
  · rw [if_pos ((cle (x := c16 400) (a := 400) (y := cn m) (by decide) rfl (by omega) (by omega)).mpr h400)]
    refine pk_b1r (fin u rfl ⟨cn (B m), (mu_id g5).symm⟩ ?_)
    have : B m = len := by omega
    rw [this]
    exact ⟨Nat.le_refl _, Nat.le_refl _, fun k h1 h2 => absurd h1 (by omega), Or.inl rfl⟩
  · rw [if_neg (fun q => h400 ((cle (x := c16 400) (a := 400) (y := cn m) (by decide) rfl (by omega) (by omega)).mp q))]
    refine pk_b2 (V_skipBlanks ⟨uT, u9, hb⟩ g5 g4) (fun v9 s8 q => ?_)
    obtain ⟨a, hr, hv, hs⟩ := q
    have hv : v9 = if a = len then ci 0 else ci 1 := hv
    have hs : s8 = (mu u.1 55 13 (cn a), u.2) := hs
    subst hs
    by_cases hal : a = len
    · rw [if_pos hal] at hv
      subst hv
      rw [if_pos (by decide)]
      subst hal
      exact pk_b1r (fin _ rfl ⟨cn a, rfl⟩ hr)
    · rw [if_neg hal] at hv
      subst hv
      have ha : a < len := by have := hr.2.1; omega
      have e13 : (mu u.1 55 13 (cn a), u.2).1 55 13 = cn a := mu_sameP
      have e9 : (mu u.1 55 13 (cn a), u.2).1 55 9 = cn len := (mu_cellP (by omega)).trans u9
      have e64 : (mu u.1 55 13 (cn a), u.2).1 64 = T := (mu_rowP (by omega)).trans uT
      rw [if_neg (by decide), e13, V_cell64 (by omega), b1_some, V_isLetter, b1_some, e64]
      -- one more
      have more : ∀ (w : mG) (b : Nat) (k n : Int32), Tok T len (B m) a b → KC T a b k → (¬ dgv (T a) = 0 → b - a ≤ 4 → n = nv T a (b - a)) → ADo m a b k n (mu u.1 55 13 (cn a), u.2) w → pk (F_X7_splitTape_88 (cn m) w) (se (fun v => ∃ m B, v.1 = cn m ∧ m ≤ 400 ∧ B 0 = 0 ∧ m ≤ B m ∧ B m ≤ len ∧ v.2.1 55 13 = cn (B m) ∧ TT m v.2 ∧ TKS T len m B v.2 ∧ RFr s v.2) (fun u => (∃ m B, TKA T len m B u) ∧ RFr s u)) := by
        intro w b k n ht hk hn hA
        unfold F_X7_splitTape_88
        rw [cnu (by omega)]
        have hlt := Tok_lt ht ha
        have hle := hr.1
        obtain ⟨r1, r2, r3⟩ := ADo_fr hA
        have g7' : TKS T len m B (mu u.1 55 13 (cn a), u.2) := fun i hi => by
          obtain ⟨a', z1, z2, z3, z4, z5⟩ := g7 i hi
          have e : mu u.1 55 13 (cn a) 66 = u.1 66 := mu_row (by omega)
          exact ⟨a', z1, z2, by show KC T a' _ (mu u.1 55 13 (cn a) 66 _); rw [e]; exact z3, fun x y => by show mu u.1 55 13 (cn a) 66 _ = _; rw [e]; exact z4 x y, by show mu u.1 55 13 (cn a) 66 _ = _; rw [e]; exact z5⟩
        refine pk_some (show ∃ _, _ from ⟨m + 1, fun i => if i = m + 1 then b else B i, rfl, by omega, ?_, ?_, ?_, ?_, ADo_TT (TT_13 g6) hA, TKS_add g7' hA ht ha hk hn, hA.1.trans f1, fun j h1 h2 h3 => ?_, fun c hc => ?_⟩)
        · simp only [if_neg (show ¬ 0 = m + 1 by omega)]; exact g2
        · simp only [if_true]; omega
        · simp only [if_true]; omega
        · simp only [if_true]; exact r3
        · show w.1 j = _
          rw [r1 j h1 h2 h3]; exact (mu_rowP h1).trans (f2 j h1 h2 h3)
        · show w.1 55 c = _
          rw [r2 c hc]; exact (mu_cellP (Or.inr hc)).trans (f3 c hc)
      by_cases hL : ltv (T a) = 0
      · rw [if_pos hL, V_isDigit, b1_some]
        by_cases hD : dgv (T a) = 0
        · rw [if_pos hD, V_addToken (TT_13 g6) (by omega), b1_some]
          refine more _ (a + 1) (T a) (ci 0) ⟨hr, Or.inr ⟨ha, Or.inr (Or.inr ⟨hL, hD, rfl⟩)⟩⟩ (Or.inr (Or.inr ⟨hL, hD, rfl⟩)) (fun x => absurd hD x) ⟨rfl, ?_⟩
          have e : mu (mu (mu (mu (mu u.1 55 13 (cn a)) 65 3 (cn (m + 1))) 66 (m * 3 + 0) (T a)) 66 (m * 3 + 1) (ci 0)) 66 (m * 3 + 2) (cn a) 55 13 = cn a := by
            rw [mu_row (by omega), mu_row (by omega), mu_row (by omega), mu_row (by omega), mu_same]
          show mu (mu (mu (mu (mu (mu u.1 55 13 (cn a)) 65 3 (cn (m + 1))) 66 (m * 3 + 0) (T a)) 66 (m * 3 + 1) (ci 0)) 66 (m * 3 + 2) (cn a)) 55 13 (mu (mu (mu (mu (mu u.1 55 13 (cn a)) 65 3 (cn (m + 1))) 66 (m * 3 + 0) (T a)) 66 (m * 3 + 1) (ci 0)) 66 (m * 3 + 2) (cn a) 55 13 + ci 1) = mu (mu (mu (mu (mu (mu u.1 55 13 (cn a)) 55 13 (cn (a + 1))) 65 3 (cn (m + 1))) 66 (m * 3 + 0) (T a)) 66 (m * 3 + 1) (ci 0)) 66 (m * 3 + 2) (cn a)
          rw [e, cnu (by omega)]
          funext i k
          simp only [mu_ap]
          by_cases h : i = 55 ∧ k = 13
          · rw [if_pos h, if_neg (by omega), if_neg (by omega), if_neg (by omega), if_neg (by omega), if_pos h]
          · rw [if_neg h]
            simp only [if_neg h]
        · rw [if_neg hD]
          refine pk_b1 (V_splitNumber ⟨e64, e9, hb⟩ e13 ha (by omega) (TT_13 g6) hL hD) (fun w q => ?_)
          obtain ⟨b, k, n, q1, q2, q3, q4⟩ := q
          exact more w b k n ⟨hr, Or.inr ⟨ha, Or.inr (Or.inl ⟨hL, hD, q1⟩)⟩⟩ q2 (fun _ => q3) q4
      · rw [if_neg hL]
        refine pk_b1 (V_splitWord ⟨e64, e9, hb⟩ e13 ha (by omega) (TT_13 g6) hL) (fun w q => ?_)
        obtain ⟨b, k, q1, q2, q4⟩ := q
        exact more w b k (ci 0) ⟨hr, Or.inr ⟨ha, Or.inl ⟨hL, q1⟩⟩⟩ q2 (fun x _ => absurd (ltv_dgv hL) x) q4
end
