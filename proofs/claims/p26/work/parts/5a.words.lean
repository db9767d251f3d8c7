noncomputable section
/-! THE WORDS OF THE TEXTS, here and there -/
def wW : List (List Int32) := [[103, 111], [99, 111, 109, 101], [99, 97, 114, 114, 121], [115, 116, 114, 97, 121], [102, 114, 111, 110, 116], [112, 114, 105, 111, 114], [103, 117, 101, 115, 116], [102, 108, 111, 111, 114], [97, 103, 101], [99, 108, 111, 99, 107], [100, 97, 121], [112, 101, 97, 114], [114, 97, 105, 110], [98, 111, 97, 114, 100], [115, 105, 110, 99, 101], [119, 104, 101, 110], [111, 114], [97, 110, 100], [110, 111, 116], [115, 105, 103, 110], [105, 110], [111, 117, 116], [99, 108, 101, 114, 107], [102, 114, 111, 109], [102, 111, 114], [97, 116]]
def wS : List Nat := [0, 3, 8, 14, 20, 26, 32, 38, 44, 48, 54, 58, 63, 68, 74, 80, 85, 88, 92, 96, 101, 104, 108, 114, 119, 123, 126]
def wJ : List Nat := [15, 16, 17, 18, 6, 7, 8, 9, 10, 11, 12, 13, 14, 0, 1, 2, 3, 4, 5, 19, 20, 21, 22, 23, 24, 25]
def sch (j k : Nat) : Int32 := ((((m_sb.getD j []).getD k 0) &&& (c16 255)).toUInt32 % 65536).toInt32
theorem w_f1 : ∀ w, w < 26 → ∀ k, k < (wW.getD w []).length → sch 0 (wS.getD w 0 + k) = (wW.getD w []).getD k 0 := by decide +kernel
theorem w_f2 : ∀ w, w < 26 → sch 0 (wS.getD w 0 + (wW.getD w []).length) = c8 32 := by decide +kernel
theorem w_f3 : ∀ w, w < 26 → ∀ k, k < (wW.getD w []).length → sch 0 (wS.getD w 0 + k) ≠ c8 32 := by decide +kernel
theorem w_f4 : ∀ w, w < 26 → wS.getD (w + 1) 0 = wS.getD w 0 + (wW.getD w []).length + 1 := by decide +kernel
theorem w_f5 : ∀ w, w < 26 → (wW.getD w []).length < 6 ∧ 1 < (wW.getD w []).length ∧ wS.getD w 0 + (wW.getD w []).length < 126 := by decide +kernel
theorem w_f6 : ∀ w, w < 26 → ∀ v, v < 26 → wW.getD w [] = wW.getD v [] → w = v := by decide +kernel
theorem w_f7 : (m_sb.getD 0 []).length = 126 := by decide +kernel
theorem w_f8 : ∀ j, j < 26 → (m_sb.getD (j + 1) []).length = (wW.getD (wJ.getD j 0) []).length := by decide +kernel
theorem w_f9 : ∀ j, j < 26 → ∀ k, k < (wW.getD (wJ.getD j 0) []).length → sch (j + 1) k = (wW.getD (wJ.getD j 0) []).getD k 0 := by decide +kernel
theorem w_f10 : ∀ j, j < 26 → wJ.getD j 0 < 26 := by decide +kernel
theorem w_f11 : wS.getD 26 0 = 126 := by decide +kernel
/-- what stands on the tape from a to b -/
def seg (T : Nat → Int32) (a b : Nat) : List Int32 := (List.range' a (b - a)).map T
theorem seg_len {T : Nat → Int32} {a b : Nat} : (seg T a b).length = b - a := by simp [seg]
theorem seg_get {T : Nat → Int32} {a b k : Nat} (h : k < b - a) : (seg T a b).getD k 0 = T (a + k) := by
  unfold seg
  rw [List.getD_eq_getElem?_getD, List.getElem?_map, List.getElem?_range' (by omega)]
  simp
theorem seg_eq {T : Nat → Int32} {a b : Nat} {l : List Int32} (h1 : l.length = b - a) (h2 : ∀ k, k < l.length → T (a + k) = l.getD k 0) : seg T a b = l := by
  refine List.ext_getElem (by rw [seg_len, h1]) (fun k h3 h4 => ?_)
  have e := h2 k h4
  have g : (seg T a b).getD k 0 = T (a + k) := seg_get (by omega)
  rw [List.getD_eq_getElem?_getD, List.getElem?_eq_getElem h3] at g
  rw [List.getD_eq_getElem?_getD, List.getElem?_eq_getElem h4] at e
  exact (show (seg T a b)[k] = T (a + k) from g).trans e
theorem pbo1 : (ci 1 : Int32) = 0 ∨ (ci 1 : Int32) = 1 := pb1
theorem pbo0 : (ci 0 : Int32) = 0 ∨ (ci 0 : Int32) = 1 := pb0
theorem c1n0 : ¬ (ci 1 : Int32) = 0 := by decide
theorem c0e0 : (ci 0 : Int32) = 0 := by decide
theorem V_chr {sk k : Nat} {s : mG} (h : 1000100 ≤ sk ∧ sk < 1000127) (hk : k < (m_sb.getD (sk - 1000100) []).length) : F_J0_charAt_5068e sk s (cn k) = some (sch (sk - 1000100) k) := by
  have hl := m_sb_lt (sk - 1000100)
  have h0 : ¬ cn k < 0 := cn_nn (by omega)
  have h1 : ¬ cn (m_sb.getD (sk - 1000100) []).length ≤ cn k := fun q => absurd ((cn_le (by omega) (by omega)).mp q) (by omega)
  have e1 : F_J0_isLatin1_aae02 sk s = some (ci 1) := by
    unfold F_J0_isLatin1_aae02
    rw [if_neg (by decide), if_pos rfl]
  unfold F_J0_charAt_5068e
  rw [e1, b1_some, if_neg (by decide)]
  have e2 : F_J1_charAt_3b067 (sk + 100) s (cn k) = some ((((m_sb.getD (sk + 100 - 1000200) []).getD (cn k).toNatClampNeg 0) &&& (c16 255)).toUInt32 % 65536).toInt32 := by
    unfold F_J1_charAt_3b067 F_J0_checkIndex_df160
    rw [mal_s (by omega), show sk + 100 - 1000200 = sk - 1000100 by omega, b1_some, F_chk h0 h1, b1_some, b1_some, if_neg (idx_ok (m_sb_lt _) h0 h1), if_pos (u_16 _)]
  rw [e2, b1_some, if_pos (u_16 _), cn_nat (by omega), show sk + 100 - 1000200 = sk - 1000100 by omega]
  rfl
theorem cn_sub {a b : Nat} (h : b ≤ a) (ha : a < 2147483648) : cn a - cn b = cn (a - b) := Int32.toInt_inj.mp (by
  rw [t_sub (by rw [t_cn ha, t_cn (by omega)]; omega) (by rw [t_cn ha, t_cn (by omega)]; omega), t_cn ha, t_cn (by omega), t_cn (by omega)]; omega)
/-! the class: one word held against the tape -/
theorem V_cell64 {s : mG} {k : Nat} (h : k < 400) : F_X11_cell 64 s (cn k) = some (s.1 64 k) := by
  have h1 : mal 64 = some 400 := by decide +kernel
  have h4 : mia s 64 (cn k) = some (s.1 64 (cn k).toNatClampNeg) := by
    unfold mia
    rw [show SH[64]? = some (.inl (0, 400, [])) by decide +kernel]
    simp only [if_neg (cn_ix h (by omega))]
  unfold F_X11_cell
  rw [if_neg (cn_nn (by omega)), h1, b1_some, if_neg (fun q => absurd ((cn_le (by omega) (by omega)).mp q) (by omega)), h4, b1_some, cn_nat (by omega)]
theorem V_isWord {s : mG} {T : Nat → Int32} {a b w : Nat} (hT : s.1 64 = T) (hp : s.1 55 13 = cn b) (hab : a ≤ b) (hb : b ≤ 400) (hw : w < 26) : pk (F_X7_isWord s (cn a) (cn (wS.getD w 0)) (cn (wS.getD w 0 + (wW.getD w []).length))) (fun v => (v = ci 1 ∧ seg T a b = wW.getD w []) ∨ (v = ci 0 ∧ seg T a b ≠ wW.getD w [])) := by
  have f5 := w_f5 w hw
  have f1 := w_f1 w hw
  generalize wS.getD w 0 = st at *
  generalize hW : wW.getD w [] = L at *
  unfold F_X7_isWord
  rw [cn_sub (by omega) (by omega), hp, cn_sub hab (by omega), show st + L.length - st = L.length by omega]
  by_cases hl : L.length = b - a
  · rw [if_pos (by rw [hl])]
    have e0 : imax (cn st) (ci 0) = cn st := if_neg fun q => absurd ((cn_lt (a := st) (b := 0) (by omega) (by omega)).mp q) (by omega)
    rw [e0]
    unfold F_X7_isWord_L21
    refine pk_whl (fun v => v.1 = cn a ∧ v.2.1 = cn st ∧ v.2.2.1 = cn (st + L.length) ∧ ∃ k, v.2.2.2 = cn (st + k) ∧ k ≤ L.length ∧ ∀ j, j < k → T (a + j) = L.getD j 0) ⟨rfl, rfl, rfl, 0, rfl, by omega, fun j hj => absurd hj (by omega)⟩ (fun v hv => ?_)
    obtain ⟨x1, x2, x3, x4⟩ := v
    obtain ⟨g1, g2, g3, k, g4, g5, g6⟩ := hv
    have g1 : x1 = cn a := g1
    have g2 : x2 = cn st := g2
    have g3 : x3 = cn (st + L.length) := g3
    have g4 : x4 = cn (st + k) := g4
    subst g1; subst g2; subst g3; subst g4
    unfold F_X7_isWord_B21 F_X7_isWord_68
    by_cases hk : L.length ≤ k
    · rw [if_pos ((cn_le (by omega) (by omega)).mpr (by omega))]
      exact pk_some (Or.inl ⟨rfl, seg_eq hl (fun j hj => g6 j (by omega))⟩)
    · rw [if_neg (fun q => absurd ((cn_le (by omega) (by omega)).mp q) (by omega)), F_len (by omega), b1_some]
      have l0 : (m_sb.getD (1000100 - 1000100) []).length = 126 := w_f7
      rw [l0, if_neg (fun q => absurd ((cn_le (by omega) (by omega)).mp q) (by omega)), V_chr (by omega) (by rw [l0]; omega), b1_some, cn_add (by omega), show a + (st + k) = a + k + st by omega, cn_sub (by omega) (by omega), show a + k + st - st = a + k by omega, V_cell64 (by omega), b1_some, hT, show (1000100 - 1000100 : Nat) = 0 by rfl, f1 k (by omega)]
      by_cases hc : L.getD k 0 = T (a + k)
      · rw [if_pos hc, cnu (by omega)]
        refine pk_some (show _ ∧ _ ∧ _ ∧ _ from ⟨rfl, rfl, rfl, k + 1, by rw [Nat.add_assoc], by omega, fun j hj => ?_⟩)
        by_cases hjk : j = k
        · subst hjk; exact hc.symm
        · exact g6 j (by omega)
      · rw [if_neg hc]
        refine pk_some (Or.inr ⟨rfl, fun e => hc ?_⟩)
        rw [← e, seg_get (by omega)]
  · rw [if_neg (fun q => hl ((cn_inj (by omega) (by omega)).mp q))]
    refine pk_some (Or.inr ⟨rfl, fun e => hl ?_⟩)
    rw [← e, seg_len]
/-- which word it is -/
def isWd (T : Nat → Int32) (a b w : Nat) : Prop := w < 26 ∧ seg T a b = wW.getD w []
theorem V_wordNumber {s : mG} {T : Nat → Int32} {a b : Nat} (hT : s.1 64 = T) (hp : s.1 55 13 = cn b) (hab : a ≤ b) (hb : b ≤ 400) : pk (F_X7_wordNumber s (cn a)) (fun v => (∃ w, v = cn w ∧ isWd T a b w) ∨ (v = ci (-1) ∧ ∀ w, ¬ isWd T a b w)) := by
  unfold F_X7_wordNumber F_X7_wordNumber_L7
  refine pk_whl (fun v => v.1 = cn a ∧ ∃ w k, v.2.1 = cn w ∧ v.2.2.1 = cn (wS.getD w 0) ∧ v.2.2.2 = cn (wS.getD w 0 + k) ∧ (w < 26 ∧ k ≤ (wW.getD w []).length ∨ w = 26 ∧ k = 0) ∧ ∀ x, x < w → ¬ isWd T a b x) ⟨rfl, 0, 0, rfl, rfl, rfl, Or.inl ⟨by omega, by omega⟩, fun x hx => absurd hx (by omega)⟩ (fun v hv => ?_)
  obtain ⟨x1, x2, x3, x4⟩ := v
  obtain ⟨g1, w, k, g2, g3, g4, g5, g6⟩ := hv
  have g1 : x1 = cn a := g1
  have g2 : x2 = cn w := g2
  have g3 : x3 = cn (wS.getD w 0) := g3
  have g4 : x4 = cn (wS.getD w 0 + k) := g4
  subst g1; subst g2; subst g3; subst g4
  unfold F_X7_wordNumber_B7 F_X7_wordNumber_50
  have l0 : (m_sb.getD (1000100 - 1000100) []).length = 126 := w_f7
  rw [F_len (by omega), b1_some, l0]
  rcases g5 with ⟨hw, hk⟩ | ⟨hw, hk⟩
  · have f5 := w_f5 w hw
    rw [if_neg (fun q => absurd ((cn_le (by omega) (by omega)).mp q) (by omega)), V_chr (by omega) (by rw [l0]; omega), b1_some, show (1000100 - 1000100 : Nat) = 0 by rfl]
    by_cases hkl : k = (wW.getD w []).length
    · subst hkl
      rw [if_pos (w_f2 w hw)]
      refine pk_b1 (V_isWord hT hp hab hb hw) (fun v8 h8 => ?_)
      rcases h8 with ⟨e, h8⟩ | ⟨e, h8⟩
      · subst e
        rw [if_neg (by decide)]
        exact pk_some (Or.inl ⟨w, rfl, hw, h8⟩)
      · subst e
        rw [if_pos (by decide), cnu (by omega), cnu (by omega)]
        have f4 := w_f4 w hw
        refine pk_some (show _ ∧ _ from ⟨rfl, w + 1, 0, rfl, by rw [f4], by rw [f4], ?_, fun x hx => ?_⟩)
        · by_cases h26 : w + 1 = 26
          · exact Or.inr ⟨h26, rfl⟩
          · exact Or.inl ⟨by omega, by omega⟩
        · by_cases hxw : x = w
          · subst hxw; exact fun q => h8 q.2
          · exact g6 x (by omega)
    · rw [if_neg (w_f3 w hw k (by omega)), cnu (by omega)]
      exact pk_some (show _ ∧ _ from ⟨rfl, w, k + 1, rfl, rfl, by rw [Nat.add_assoc], Or.inl ⟨hw, by omega⟩, g6⟩)
  · subst hw; subst hk
    rw [w_f11, if_pos ((cn_le (by omega) (by omega)).mpr (by omega))]
    exact pk_some (Or.inr ⟨rfl, fun w q => g6 w q.1 q⟩)
/-! the reference: one word held against the tape -/
theorem V_is {s : mG} {T : Nat → Int32} {a b j : Nat} (hT : ∀ k, k < b → s.1 95 k = T k) (h18 : s.1 88 18 = cn a) (h16 : s.1 88 16 = cn b) (hab : a ≤ b) (hb : b ≤ 400) (hj : j < 26) : pk (F_X12_is (1000100 + (j + 1)) s) (fun v => (v = ci 1 ∧ isWd T a b (wJ.getD j 0)) ∨ (v = ci 0 ∧ ¬ isWd T a b (wJ.getD j 0))) := by
  have f8 := w_f8 j hj
  have f9 := w_f9 j hj
  have f10 := w_f10 j hj
  have f5 := w_f5 _ f10
  unfold isWd
  generalize wJ.getD j 0 = w at *
  have hs : 1000100 + (j + 1) - 1000100 = j + 1 := by omega
  unfold F_X12_is
  rw [F_len (by omega), b1_some, hs, f8, h18, h16, cn_sub hab (by omega)]
  generalize hW : wW.getD w [] = L at *
  have lp : ∀ x2 : Int32, (x2 = ci 1 ∧ L.length = b - a) ∨ (x2 = ci 0 ∧ L.length ≠ b - a) → pk (F_X12_is_21 (1000100 + (j + 1)) s x2) (fun v => (v = ci 1 ∧ w < 26 ∧ seg T a b = L) ∨ (v = ci 0 ∧ ¬ (w < 26 ∧ seg T a b = L))) := by
    intro x2 hx
    unfold F_X12_is_21 F_X12_is_L24
    refine pk_whl (fun v => ∃ k, v.2 = cn k ∧ k ≤ L.length ∧ ((v.1 = ci 1 ∧ L.length = b - a ∧ ∀ i, i < k → T (a + i) = L.getD i 0) ∨ (v.1 = ci 0 ∧ seg T a b ≠ L))) ⟨0, rfl, by omega, ?_⟩ (fun v hv => ?_)
    · rcases hx with ⟨e, h⟩ | ⟨e, h⟩
      · exact Or.inl ⟨e, h, fun i hi => absurd hi (by omega)⟩
      · exact Or.inr ⟨e, fun q => h (by rw [← q, seg_len])⟩
    · obtain ⟨y2, y3⟩ := v
      obtain ⟨k, g1, g2, g3⟩ := hv
      have g1 : y3 = cn k := g1
      subst g1
      unfold F_X12_is_B24 F_X12_is_67 F_X12_is_60
      dsimp only
      rw [F_len (by omega), b1_some, hs, f8]
      rcases g3 with ⟨e, g4, g5⟩ | ⟨e, g4⟩
      · have e : y2 = ci 1 := e
        subst e
        by_cases hk : L.length ≤ k
        · rw [if_pos ((cn_le (by omega) (by omega)).mpr hk), if_pos pbo1, b1_some]
          exact pk_some (Or.inl ⟨rfl, f10, seg_eq g4 (fun i hi => g5 i (by omega))⟩)
        · rw [if_neg (fun q => hk ((cn_le (by omega) (by omega)).mp q)), if_neg c1n0]
          refine pk_nn ?_
          rw [V_chr (by omega) (by rw [hs, f8]; omega), b1_some, hs, f9 k (by omega), h18, cn_add (by omega), cn_nat (by omega), hT (a + k) (by omega), cnu (by omega)]
          by_cases hc : T (a + k) = L.getD k 0
          · rw [if_pos hc]
            refine pk_some (show ∃ _, _ from ⟨k + 1, rfl, by omega, Or.inl ⟨rfl, g4, fun i hi => ?_⟩⟩)
            by_cases hik : i = k
            · subst hik; exact hc
            · exact g5 i (by omega)
          · rw [if_neg hc]
            refine pk_some (show ∃ _, _ from ⟨k + 1, rfl, by omega, Or.inr ⟨rfl, fun q => hc ?_⟩⟩)
            rw [← q, seg_get (by omega)]
      · have e : y2 = ci 0 := e
        subst e
        refine pk_ite ?_ ?_
        · rw [if_pos pbo0, b1_some]
          exact pk_some (Or.inr ⟨rfl, fun q => g4 q.2⟩)
        · rw [if_pos c0e0, if_pos pbo0, b1_some]
          exact pk_some (Or.inr ⟨rfl, fun q => g4 q.2⟩)
  by_cases hl : L.length = b - a
  · rw [if_pos (by rw [hl])]; exact lp _ (Or.inl ⟨rfl, hl⟩)
  · rw [if_neg (fun q => hl ((cn_inj (by omega) (by omega)).mp q).symm)]; exact lp _ (Or.inr ⟨rfl, hl⟩)
end
