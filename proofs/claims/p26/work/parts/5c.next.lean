noncomputable section
/-! THE REFERENCE READS THE TAPE -/
def mw (r w : Nat) : Nat := if r = 0 then [20, 21, 22, 23, 24, 25, 41, 42, 43, 44, 45, 46, 47, 48, 49, 3, 4, 5, 6, 1, 1, 1, 1, 1, 1, 1].getD w 1 else if r = 1 then [1, 1, 1, 1, 1, 1, 1, 1, 1, 1, 1, 1, 1, 1, 1, 1, 1, 1, 1, 7, 8, 9, 1, 1, 1, 1].getD w 1 else [1, 1, 1, 1, 1, 1, 1, 1, 1, 1, 1, 1, 1, 1, 1, 1, 1, 1, 1, 1, 1, 1, 10, 11, 12, 13].getD w 1
def KW (r : Nat) (T : Nat → Int32) (a b : Nat) (kr : Int32) : Prop := (∃ w, isWd T a b w ∧ kr = cn (mw r w)) ∨ ((∀ w, ¬ isWd T a b w) ∧ kr = ci 1)
def sg (x : Int32) : Int32 := if x = c8 59 then c8 100 + x else if x = c8 43 then c8 100 + x else if x = c8 45 then c8 100 + x else if x = c8 42 then c8 100 + x else if x = c8 47 then c8 100 + x else if x = c8 40 then c8 100 + x else if x = c8 41 then c8 100 + x else if x = c8 60 then c8 100 + x else if x = c8 61 then c8 100 + x else if x = c8 62 then c8 100 + x else ci 1
def KR (r : Nat) (T : Nat → Int32) (len a b : Nat) (kr : Int32) : Prop := (a = len ∧ kr = 0) ∨ (a < len ∧ ((¬ ltv (T a) = 0 ∧ KW r T a b kr) ∨ (ltv (T a) = 0 ∧ ¬ dgv (T a) = 0 ∧ ((b - a ≤ 4 ∧ kr = ci 2) ∨ (4 < b - a ∧ kr = ci 1))) ∨ (ltv (T a) = 0 ∧ dgv (T a) = 0 ∧ kr = sg (T a))))
section WORDS
variable {s : mG} {T : Nat → Int32} {a b : Nat}
theorem V_wordOfLaw (hT : ∀ k, k < b → s.1 95 k = T k) (h18 : s.1 88 18 = cn a) (h16 : s.1 88 16 = cn b) (hab : a ≤ b) (hb : b ≤ 400) : pk (F_X12_wordOfLaw s) (fun v => (∃ w, isWd T a b w ∧ w < 6 ∧ v = cn (mw 0 w)) ∨ ((∀ w, w < 6 → ¬ isWd T a b w) ∧ v = ci 1)) := by
  unfold F_X12_wordOfLaw
  refine pk_b1 (V_is (j := 13) hT h18 h16 hab hb (by omega)) (fun v0 q0 => ?_)
  rcases q0 with ⟨e0, q0⟩ | ⟨e0, q0⟩
  · subst e0; rw [if_neg (by decide)]; exact pk_some (Or.inl ⟨0, q0, by omega, by decide⟩)
  subst e0
  rw [if_pos (by decide)]
  refine pk_b1 (V_is (j := 14) hT h18 h16 hab hb (by omega)) (fun v1 q1 => ?_)
  rcases q1 with ⟨e1, q1⟩ | ⟨e1, q1⟩
  · subst e1; rw [if_neg (by decide)]; exact pk_some (Or.inl ⟨1, q1, by omega, by decide⟩)
  subst e1
  rw [if_pos (by decide)]
  refine pk_b1 (V_is (j := 15) hT h18 h16 hab hb (by omega)) (fun v2 q2 => ?_)
  rcases q2 with ⟨e2, q2⟩ | ⟨e2, q2⟩
  · subst e2; rw [if_neg (by decide)]; exact pk_some (Or.inl ⟨2, q2, by omega, by decide⟩)
  subst e2
  rw [if_pos (by decide)]
  refine pk_b1 (V_is (j := 16) hT h18 h16 hab hb (by omega)) (fun v3 q3 => ?_)
  rcases q3 with ⟨e3, q3⟩ | ⟨e3, q3⟩
  · subst e3; rw [if_neg (by decide)]; exact pk_some (Or.inl ⟨3, q3, by omega, by decide⟩)
  subst e3
  rw [if_pos (by decide)]
  refine pk_b1 (V_is (j := 17) hT h18 h16 hab hb (by omega)) (fun v4 q4 => ?_)
  rcases q4 with ⟨e4, q4⟩ | ⟨e4, q4⟩
  · subst e4; rw [if_neg (by decide)]; exact pk_some (Or.inl ⟨4, q4, by omega, by decide⟩)
  subst e4
  rw [if_pos (by decide)]
  refine pk_b1 (V_is (j := 18) hT h18 h16 hab hb (by omega)) (fun v5 q5 => ?_)
  rcases q5 with ⟨e5, q5⟩ | ⟨e5, q5⟩
  · subst e5; rw [if_neg (by decide)]; exact pk_some (Or.inl ⟨5, q5, by omega, by decide⟩)
  subst e5
  rw [if_pos (by decide)]
  refine pk_some (Or.inr ⟨fun w hw => ?_, rfl⟩)
  have : w = 0 ∨ w = 1 ∨ w = 2 ∨ w = 3 ∨ w = 4 ∨ w = 5 := by omega
  rcases this with e | e | e | e | e | e <;> subst e <;> assumption
theorem V_asked (hT : ∀ k, k < b → s.1 95 k = T k) (h18 : s.1 88 18 = cn a) (h16 : s.1 88 16 = cn b) (hab : a ≤ b) (hb : b ≤ 400) : pk (F_X12_asked s) (fun v => (∃ w, isWd T a b w ∧ w < 15 ∧ v = cn (mw 0 w)) ∨ ((∀ w, w < 15 → ¬ isWd T a b w) ∧ v = ci 1)) := by
  unfold F_X12_asked
  refine pk_b1 (V_is (j := 4) hT h18 h16 hab hb (by omega)) (fun v0 q0 => ?_)
  rcases q0 with ⟨e0, q0⟩ | ⟨e0, q0⟩
  · subst e0; rw [if_neg (by decide)]; exact pk_some (Or.inl ⟨6, q0, by omega, by decide⟩)
  subst e0
  rw [if_pos (by decide)]
  refine pk_b1 (V_is (j := 5) hT h18 h16 hab hb (by omega)) (fun v1 q1 => ?_)
  rcases q1 with ⟨e1, q1⟩ | ⟨e1, q1⟩
  · subst e1; rw [if_neg (by decide)]; exact pk_some (Or.inl ⟨7, q1, by omega, by decide⟩)
  subst e1
  rw [if_pos (by decide)]
  refine pk_b1 (V_is (j := 6) hT h18 h16 hab hb (by omega)) (fun v2 q2 => ?_)
  rcases q2 with ⟨e2, q2⟩ | ⟨e2, q2⟩
  · subst e2; rw [if_neg (by decide)]; exact pk_some (Or.inl ⟨8, q2, by omega, by decide⟩)
  subst e2
  rw [if_pos (by decide)]
  refine pk_b1 (V_is (j := 7) hT h18 h16 hab hb (by omega)) (fun v3 q3 => ?_)
  rcases q3 with ⟨e3, q3⟩ | ⟨e3, q3⟩
  · subst e3; rw [if_neg (by decide)]; exact pk_some (Or.inl ⟨9, q3, by omega, by decide⟩)
  subst e3
  rw [if_pos (by decide)]
  refine pk_b1 (V_is (j := 8) hT h18 h16 hab hb (by omega)) (fun v4 q4 => ?_)
  rcases q4 with ⟨e4, q4⟩ | ⟨e4, q4⟩
  · subst e4; rw [if_neg (by decide)]; exact pk_some (Or.inl ⟨10, q4, by omega, by decide⟩)
  subst e4
  rw [if_pos (by decide)]
  refine pk_b1 (V_is (j := 9) hT h18 h16 hab hb (by omega)) (fun v5 q5 => ?_)
  rcases q5 with ⟨e5, q5⟩ | ⟨e5, q5⟩
  · subst e5; rw [if_neg (by decide)]; exact pk_some (Or.inl ⟨11, q5, by omega, by decide⟩)
  subst e5
  rw [if_pos (by decide)]
  refine pk_b1 (V_is (j := 10) hT h18 h16 hab hb (by omega)) (fun v6 q6 => ?_)
  rcases q6 with ⟨e6, q6⟩ | ⟨e6, q6⟩
  · subst e6; rw [if_neg (by decide)]; exact pk_some (Or.inl ⟨12, q6, by omega, by decide⟩)
  subst e6
  rw [if_pos (by decide)]
  refine pk_b1 (V_is (j := 11) hT h18 h16 hab hb (by omega)) (fun v7 q7 => ?_)
  rcases q7 with ⟨e7, q7⟩ | ⟨e7, q7⟩
  · subst e7; rw [if_neg (by decide)]; exact pk_some (Or.inl ⟨13, q7, by omega, by decide⟩)
  subst e7
  rw [if_pos (by decide)]
  refine pk_b1 (V_is (j := 12) hT h18 h16 hab hb (by omega)) (fun v8 q8 => ?_)
  rcases q8 with ⟨e8, q8⟩ | ⟨e8, q8⟩
  · subst e8; rw [if_neg (by decide)]; exact pk_some (Or.inl ⟨14, q8, by omega, by decide⟩)
  subst e8
  rw [if_pos (by decide)]
  refine pk_b1 (V_wordOfLaw hT h18 h16 hab hb) (fun v9 q9 => pk_some ?_)
  rcases q9 with ⟨w, h1, h2, h3⟩ | ⟨h1, h2⟩
  · exact Or.inl ⟨w, h1, by omega, h3⟩
  · refine Or.inr ⟨fun w hw => ?_, h2⟩
    by_cases h6 : w < 6
    · exact h1 w h6
    · have : w = 6 ∨ w = 7 ∨ w = 8 ∨ w = 9 ∨ w = 10 ∨ w = 11 ∨ w = 12 ∨ w = 13 ∨ w = 14 := by omega
      rcases this with e | e | e | e | e | e | e | e | e <;> subst e <;> assumption
theorem V_lawWord (hT : ∀ k, k < b → s.1 95 k = T k) (h18 : s.1 88 18 = cn a) (h16 : s.1 88 16 = cn b) (hab : a ≤ b) (hb : b ≤ 400) : pk (F_X12_lawWord s) (fun v => (∃ w, isWd T a b w ∧ w < 19 ∧ v = cn (mw 0 w)) ∨ ((∀ w, w < 19 → ¬ isWd T a b w) ∧ v = ci 1)) := by
  unfold F_X12_lawWord
  refine pk_b1 (V_is (j := 0) hT h18 h16 hab hb (by omega)) (fun v0 q0 => ?_)
  rcases q0 with ⟨e0, q0⟩ | ⟨e0, q0⟩
  · subst e0; rw [if_neg (by decide)]; exact pk_some (Or.inl ⟨15, q0, by omega, by decide⟩)
  subst e0
  rw [if_pos (by decide)]
  refine pk_b1 (V_is (j := 1) hT h18 h16 hab hb (by omega)) (fun v1 q1 => ?_)
  rcases q1 with ⟨e1, q1⟩ | ⟨e1, q1⟩
  · subst e1; rw [if_neg (by decide)]; exact pk_some (Or.inl ⟨16, q1, by omega, by decide⟩)
  subst e1
  rw [if_pos (by decide)]
  refine pk_b1 (V_is (j := 2) hT h18 h16 hab hb (by omega)) (fun v2 q2 => ?_)
  rcases q2 with ⟨e2, q2⟩ | ⟨e2, q2⟩
  · subst e2; rw [if_neg (by decide)]; exact pk_some (Or.inl ⟨17, q2, by omega, by decide⟩)
  subst e2
  rw [if_pos (by decide)]
  refine pk_b1 (V_is (j := 3) hT h18 h16 hab hb (by omega)) (fun v3 q3 => ?_)
  rcases q3 with ⟨e3, q3⟩ | ⟨e3, q3⟩
  · subst e3; rw [if_neg (by decide)]; exact pk_some (Or.inl ⟨18, q3, by omega, by decide⟩)
  subst e3
  rw [if_pos (by decide)]
  refine pk_b1 (V_asked hT h18 h16 hab hb) (fun v9 q9 => pk_some ?_)
  rcases q9 with ⟨w, h1, h2, h3⟩ | ⟨h1, h2⟩
  · exact Or.inl ⟨w, h1, by omega, h3⟩
  · refine Or.inr ⟨fun w hw => ?_, h2⟩
    by_cases h6 : w < 15
    · exact h1 w h6
    · have : w = 15 ∨ w = 16 ∨ w = 17 ∨ w = 18 := by omega
      rcases this with e | e | e | e <;> subst e <;> assumption
theorem V_signWord (hT : ∀ k, k < b → s.1 95 k = T k) (h18 : s.1 88 18 = cn a) (h16 : s.1 88 16 = cn b) (hab : a ≤ b) (hb : b ≤ 400) : pk (F_X12_signWord s) (KW 1 T a b) := by
  unfold F_X12_signWord
  refine pk_b1 (V_is (j := 19) hT h18 h16 hab hb (by omega)) (fun v0 q0 => ?_)
  rcases q0 with ⟨e0, q0⟩ | ⟨e0, q0⟩
  · subst e0; rw [if_neg (by decide)]; exact pk_some (Or.inl ⟨19, q0, by decide⟩)
  subst e0
  rw [if_pos (by decide)]
  refine pk_b1 (V_is (j := 20) hT h18 h16 hab hb (by omega)) (fun v1 q1 => ?_)
  rcases q1 with ⟨e1, q1⟩ | ⟨e1, q1⟩
  · subst e1; rw [if_neg (by decide)]; exact pk_some (Or.inl ⟨20, q1, by decide⟩)
  subst e1
  rw [if_pos (by decide)]
  refine pk_b1 (V_is (j := 21) hT h18 h16 hab hb (by omega)) (fun v2 q2 => ?_)
  rcases q2 with ⟨e2, q2⟩ | ⟨e2, q2⟩
  · subst e2; rw [if_neg (by decide)]; exact pk_some (Or.inl ⟨21, q2, by decide⟩)
  subst e2
  rw [if_pos (by decide)]
  by_cases hex : ∃ w, isWd T a b w
  · obtain ⟨w, hw⟩ := hex
    refine pk_some (Or.inl ⟨w, hw, ?_⟩)
    have h26 := hw.1
    have n19 : w ≠ 19 := fun e => by subst e; contradiction
    have n20 : w ≠ 20 := fun e => by subst e; contradiction
    have n21 : w ≠ 21 := fun e => by subst e; contradiction
    have f : ∀ w, w < 26 → w ≠ 19 → w ≠ 20 → w ≠ 21 → mw 1 w = 1 := by decide +kernel
    rw [f w h26 n19 n20 n21]; rfl
  · exact pk_some (Or.inr ⟨fun w hw => hex ⟨w, hw⟩, rfl⟩)
theorem V_shiftWord (hT : ∀ k, k < b → s.1 95 k = T k) (h18 : s.1 88 18 = cn a) (h16 : s.1 88 16 = cn b) (hab : a ≤ b) (hb : b ≤ 400) : pk (F_X12_shiftWord s) (KW 2 T a b) := by
  unfold F_X12_shiftWord
  refine pk_b1 (V_is (j := 22) hT h18 h16 hab hb (by omega)) (fun v0 q0 => ?_)
  rcases q0 with ⟨e0, q0⟩ | ⟨e0, q0⟩
  · subst e0; rw [if_neg (by decide)]; exact pk_some (Or.inl ⟨22, q0, by decide⟩)
  subst e0
  rw [if_pos (by decide)]
  refine pk_b1 (V_is (j := 23) hT h18 h16 hab hb (by omega)) (fun v1 q1 => ?_)
  rcases q1 with ⟨e1, q1⟩ | ⟨e1, q1⟩
  · subst e1; rw [if_neg (by decide)]; exact pk_some (Or.inl ⟨23, q1, by decide⟩)
  subst e1
  rw [if_pos (by decide)]
  refine pk_b1 (V_is (j := 24) hT h18 h16 hab hb (by omega)) (fun v2 q2 => ?_)
  rcases q2 with ⟨e2, q2⟩ | ⟨e2, q2⟩
  · subst e2; rw [if_neg (by decide)]; exact pk_some (Or.inl ⟨24, q2, by decide⟩)
  subst e2
  rw [if_pos (by decide)]
  refine pk_b1 (V_is (j := 25) hT h18 h16 hab hb (by omega)) (fun v3 q3 => ?_)
  rcases q3 with ⟨e3, q3⟩ | ⟨e3, q3⟩
  · subst e3; rw [if_neg (by decide)]; exact pk_some (Or.inl ⟨25, q3, by decide⟩)
  subst e3
  rw [if_pos (by decide)]
  by_cases hex : ∃ w, isWd T a b w
  · obtain ⟨w, hw⟩ := hex
    refine pk_some (Or.inl ⟨w, hw, ?_⟩)
    have h26 := hw.1
    have n22 : w ≠ 22 := fun e => by subst e; contradiction
    have n23 : w ≠ 23 := fun e => by subst e; contradiction
    have n24 : w ≠ 24 := fun e => by subst e; contradiction
    have n25 : w ≠ 25 := fun e => by subst e; contradiction
    have f : ∀ w, w < 26 → w ≠ 22 → w ≠ 23 → w ≠ 24 → w ≠ 25 → mw 2 w = 1 := by decide +kernel
    rw [f w h26 n22 n23 n24 n25]; rfl
  · exact pk_some (Or.inr ⟨fun w hw => hex ⟨w, hw⟩, rfl⟩)
theorem V_word (hT : ∀ k, k < b → s.1 95 k = T k) (h18 : s.1 88 18 = cn a) (h16 : s.1 88 16 = cn b) (hab : a ≤ b) (hb : b ≤ 400) {r : Nat} (hr : r < 3) (h11 : s.1 88 11 = cn r) : pk (F_X12_word s) (KW r T a b) := by
  unfold F_X12_word
  rw [h11]
  have : r = 0 ∨ r = 1 ∨ r = 2 := by omega
  rcases this with e | e | e
  · subst e
    rw [if_pos (by decide)]
    refine pk_b1 (V_lawWord hT h18 h16 hab hb) (fun v q => pk_some ?_)
    rcases q with ⟨w, h1, h2, h3⟩ | ⟨h1, h2⟩
    · exact Or.inl ⟨w, h1, h3⟩
    · by_cases hex : ∃ w, isWd T a b w
      · obtain ⟨w, hw⟩ := hex
        have h26 := hw.1
        have hn : 19 ≤ w := Nat.le_of_not_lt fun q => h1 w q hw
        have f : ∀ w, w < 26 → 19 ≤ w → mw 0 w = 1 := by decide +kernel
        exact Or.inl ⟨w, hw, by rw [f w h26 hn]; exact h2⟩
      · exact Or.inr ⟨fun w hw => hex ⟨w, hw⟩, h2⟩
  · subst e
    rw [if_neg (by decide), if_pos (by decide)]
    exact pk_b1 (V_signWord hT h18 h16 hab hb) (fun v q => pk_some q)
  · subst e
    rw [if_neg (by decide), if_neg (by decide)]
    exact pk_b1 (V_shiftWord hT h18 h16 hab hb) (fun v q => pk_some q)
end WORDS
theorem V_see {s : mG} {T : Nat → Int32} {len k : Nat} (hT : ∀ k, k < len → s.1 95 k = T k) (hl : s.1 88 15 = cn len) (hlen : len ≤ 400) (hk : k ≤ len) : F_X12_see s (cn k) = some (if k < len then T k else ci (-1)) := by
  unfold F_X12_see
  rw [hl]
  by_cases h : k < len
  · rw [if_neg (fun q => absurd ((cn_le (by omega) (by omega)).mp q) (by omega)), if_neg (cn_ix (by omega) (by omega)), if_pos h, cn_nat (by omega), hT k h]
  · rw [if_pos ((cn_le (by omega) (by omega)).mpr (by omega)), if_neg h]
theorem mu_sameQ {D : Nat → Nat → Int32} {E : Nat → Nat → Int64} {i k : Nat} {v : Int32} : ((mu D i k v, E) : mG).1 i k = v := mu_same
theorem mu_cellQ {D : Nat → Nat → Int32} {E : Nat → Nat → Int64} {i j k l : Nat} {v : Int32} (h : j ≠ i ∨ l ≠ k) : ((mu D i k v, E) : mG).1 j l = D j l := mu_cell h
theorem mu_rowQ {D : Nat → Nat → Int32} {E : Nat → Nat → Int64} {i j k : Nat} {v : Int32} (h : j ≠ i) : ((mu D i k v, E) : mG).1 j = D j := mu_row h
/-- what reading one token leaves -/
def NF (s u : mG) : Prop := u.2 = s.2 ∧ (∀ j, j ≠ 88 → u.1 j = s.1 j) ∧ ∀ c, c ≠ 16 → c ≠ 17 → c ≠ 18 → c ≠ 19 → u.1 88 c = s.1 88 c
theorem NF_mu {s u : mG} {c : Nat} {v : Int32} (h : NF s u) (hc : 16 ≤ c ∧ c ≤ 19) : NF s (mu u.1 88 c v, u.2) :=
  ⟨h.1, fun j hj => (mu_rowQ hj).trans (h.2.1 j hj), fun d h1 h2 h3 h4 => (mu_cellQ (j := 88) (l := d) (Or.inr (by omega))).trans (h.2.2 d h1 h2 h3 h4)⟩
def NXT (r : Nat) (T : Nat → Int32) (len p : Nat) (s u : mG) : Prop := NF s u ∧ ∃ a b, Tok T len p a b ∧ u.1 88 18 = cn a ∧ u.1 88 16 = cn b ∧ KR r T len a b (u.1 88 17) ∧ (a < len → ltv (T a) = 0 → ¬ dgv (T a) = 0 → b - a ≤ 4 → u.1 88 19 = nv T a (b - a))
theorem bk_ne {x : Int32} (h1 : ¬ x = c8 32) (h2 : ¬ x = c8 10) : bkv x = 0 := by
  unfold bkv
  rw [if_neg h1, if_neg h2]; decide
theorem V_284 {x : Int32} {s : mG} : F_X12_next0_284 x s = some (mu s.1 88 17 (c8 100 + x), s.2) := by
  unfold F_X12_next0_284 F_X12_next0_289 F_X12_next0_303
  exact if_neg (by decide)
theorem V_289 {x : Int32} {s : mG} : F_X12_next0_289 x (ci 0) s = some (mu s.1 88 17 (ci 1), s.2) := by
  unfold F_X12_next0_289 F_X12_next0_303
  exact if_pos (by decide)
theorem V_next0 {s : mG} {T : Nat → Int32} {len p r : Nat} (hT : ∀ k, k < len → s.1 95 k = T k) (hl : s.1 88 15 = cn len) (hlen : len ≤ 400) (hr : r < 3) (h11 : s.1 88 11 = cn r) (h16 : s.1 88 16 = cn p) (hp : p ≤ len) (hB : ∀ k, k < len → 0 ≤ (T k).toInt) : pk (F_X12_next0 s) (NXT r T len p s) := by
  unfold F_X12_next0 F_X12_next0_L0
  refine pk_whl (fun u => NF s u ∧ ∃ q, p ≤ q ∧ q ≤ len ∧ (∀ k, p ≤ k → k < q → ¬ bkv (T k) = 0) ∧ u.1 88 16 = cn q) ⟨⟨rfl, fun _ _ => rfl, fun _ _ _ _ _ => rfl⟩, p, Nat.le_refl _, hp, fun k h1 h2 => absurd h1 (by omega), h16⟩ (fun u hu => ?_)
  obtain ⟨nf, q, g1, g2, g3, g4⟩ := hu
  have uT : ∀ k, k < len → u.1 95 k = T k := fun k hk => (congrFun (nf.2.1 95 (by decide)) k).trans (hT k hk)
  have ul : u.1 88 15 = cn len := (nf.2.2 15 (by decide) (by decide) (by decide) (by decide)).trans hl
  have u11 : u.1 88 11 = cn r := (nf.2.2 11 (by decide) (by decide) (by decide) (by decide)).trans h11
  have more : (q < len ∧ ¬ bkv (T q) = 0) → pk (F_X12_next0_26 u) (se (fun u => NF s u ∧ ∃ q, p ≤ q ∧ q ≤ len ∧ (∀ k, p ≤ k → k < q → ¬ bkv (T k) = 0) ∧ u.1 88 16 = cn q) (NXT r T len p s)) := by
    intro hq
    unfold F_X12_next0_26
    rw [g4, cnu (by omega)]
    refine pk_some (show NF s _ ∧ _ from ⟨NF_mu nf (by omega), q + 1, by omega, by omega, fun k h1 h2 => ?_, mu_sameQ⟩)
    by_cases hk : k = q
    · subst hk; exact hq.2
    · exact g3 k h1 (by omega)
  unfold F_X12_next0_B0
  rw [g4, V_see uT ul hlen g2, b1_some, b1_some]
  by_cases hq : q < len
  · simp only [if_pos hq]
    by_cases k1 : T q = c8 32
    · rw [if_pos k1]; exact more ⟨hq, by rw [k1]; decide⟩
    rw [if_neg k1]
    by_cases k2 : T q = c8 10
    · rw [if_pos k2]; exact more ⟨hq, by rw [k2]; decide⟩
    rw [if_neg k2]
    have hrun : Run bkv T len p q := ⟨g1, g2, g3, Or.inr (bk_ne k1 k2)⟩
    have nf8 : NF s (mu u.1 88 18 (cn q), u.2) := NF_mu nf (by omega)
    have e18 : (mu u.1 88 18 (cn q), u.2).1 88 18 = cn q := mu_sameQ
    have e16 : (mu u.1 88 18 (cn q), u.2).1 88 16 = cn q := (mu_cellQ (by omega)).trans g4
    have e15 : (mu u.1 88 18 (cn q), u.2).1 88 15 = cn len := (mu_cellQ (by omega)).trans ul
    have e11 : (mu u.1 88 18 (cn q), u.2).1 88 11 = cn r := (mu_cellQ (by omega)).trans u11
    have eT : ∀ k, k < len → (mu u.1 88 18 (cn q), u.2).1 95 k = T k := fun k hk => (congrFun (mu_rowQ (by omega)) k).trans (uT k hk)
    try dsimp only
    have f18 : mu u.1 88 18 (cn q) 88 18 = cn q := e18
    have f16 : mu u.1 88 18 (cn q) 88 16 = cn q := e16
    generalize mu u.1 88 18 (cn q) = D at *
    rw [f16, V_see eT e15 hlen g2, b1_some, if_pos hq]
    have nm1 : ¬ T q = ci (-1) := fun e => by
      have h := hB q hq
      rw [e, t_cm1] at h
      omega
    rw [if_neg nm1, V_isLetter12, b1_some, V_isDigit12, b1_some]
    by_cases hL : ltv (T q) = 0
    · rw [if_pos hL]
      by_cases hD : dgv (T q) = 0
      · rw [if_pos hD, cnu (by omega)]
        have fin : ∀ v, v = sg (T q) → pk (b1 (some ((mu (mu D 88 16 (cn (q + 1))) 88 17 v, u.2) : mG)) fun τ => some (Sum.inr τ)) (se (fun u => NF s u ∧ ∃ q, p ≤ q ∧ q ≤ len ∧ (∀ k, p ≤ k → k < q → ¬ bkv (T k) = 0) ∧ u.1 88 16 = cn q) (NXT r T len p s)) := by
          intro v hv
          rw [b1_some]
          refine pk_some (show NXT r T len p s _ from ⟨NF_mu (NF_mu nf8 (by omega)) (by omega), q, q + 1, ⟨hrun, Or.inr ⟨hq, Or.inr (Or.inr ⟨hL, hD, rfl⟩)⟩⟩, ?_, ?_, Or.inr ⟨hq, Or.inr (Or.inr ⟨hL, hD, mu_sameQ.trans hv⟩)⟩, fun _ _ h => absurd hD h⟩)
          · exact (mu_cellQ (by omega)).trans ((mu_cell (by omega)).trans e18)
          · exact (mu_cellQ (by omega)).trans mu_same
        by_cases k59 : T q = c8 59
        · rw [if_pos k59, V_284]
          exact fin _ (by unfold sg; rw [if_pos k59])
        rw [if_neg k59]
        by_cases k43 : T q = c8 43
        · rw [if_pos k43, V_284]
          exact fin _ (by unfold sg; rw [if_neg k59, if_pos k43])
        rw [if_neg k43]
        by_cases k45 : T q = c8 45
        · rw [if_pos k45, V_284]
          exact fin _ (by unfold sg; rw [if_neg k59, if_neg k43, if_pos k45])
        rw [if_neg k45]
        by_cases k42 : T q = c8 42
        · rw [if_pos k42, V_284]
          exact fin _ (by unfold sg; rw [if_neg k59, if_neg k43, if_neg k45, if_pos k42])
        rw [if_neg k42]
        by_cases k47 : T q = c8 47
        · rw [if_pos k47, V_284]
          exact fin _ (by unfold sg; rw [if_neg k59, if_neg k43, if_neg k45, if_neg k42, if_pos k47])
        rw [if_neg k47]
        by_cases k40 : T q = c8 40
        · rw [if_pos k40, V_284]
          exact fin _ (by unfold sg; rw [if_neg k59, if_neg k43, if_neg k45, if_neg k42, if_neg k47, if_pos k40])
        rw [if_neg k40]
        by_cases k41 : T q = c8 41
        · rw [if_pos k41, V_284]
          exact fin _ (by unfold sg; rw [if_neg k59, if_neg k43, if_neg k45, if_neg k42, if_neg k47, if_neg k40, if_pos k41])
        rw [if_neg k41]
        by_cases k60 : T q = c8 60
        · rw [if_pos k60, V_284]
          exact fin _ (by unfold sg; rw [if_neg k59, if_neg k43, if_neg k45, if_neg k42, if_neg k47, if_neg k40, if_neg k41, if_pos k60])
        rw [if_neg k60]
        by_cases k61 : T q = c8 61
        · rw [if_pos k61, V_284]
          exact fin _ (by unfold sg; rw [if_neg k59, if_neg k43, if_neg k45, if_neg k42, if_neg k47, if_neg k40, if_neg k41, if_neg k60, if_pos k61])
        rw [if_neg k61]
        by_cases k62 : T q = c8 62
        · rw [if_pos k62, V_284]
          exact fin _ (by unfold sg; rw [if_neg k59, if_neg k43, if_neg k45, if_neg k42, if_neg k47, if_neg k40, if_neg k41, if_neg k60, if_neg k61, if_pos k62])
        rw [if_neg k62]
        rw [V_289]
        exact fin _ (by unfold sg; rw [if_neg k59, if_neg k43, if_neg k45, if_neg k42, if_neg k47, if_neg k40, if_neg k41, if_neg k60, if_neg k61, if_neg k62])
      · rw [if_neg hD]
        unfold F_X12_next0_L126
        refine pk_b1r (pk_whl (fun u => NF s u ∧ u.1 88 18 = cn q ∧ ∃ b, q ≤ b ∧ b ≤ len ∧ (∀ k, q ≤ k → k < b → ¬ dgv (T k) = 0) ∧ u.1 88 16 = cn b ∧ (b - q ≤ 4 → u.1 88 19 = nv T q (b - q))) ⟨NF_mu nf8 (by omega), (mu_cellQ (by omega)).trans e18, q, Nat.le_refl _, g2, fun k h1 h2 => absurd h1 (by omega), (mu_cellQ (by omega)).trans e16, fun _ => by rw [Nat.sub_self]; exact mu_sameQ⟩ (fun u hu => ?_))
        obtain ⟨nfu, u18, b, bb1, bb2, bb3, u16, u19⟩ := hu
        have vT : ∀ k, k < len → u.1 95 k = T k := fun k hk => (congrFun (nfu.2.1 95 (by decide)) k).trans (hT k hk)
        have vl : u.1 88 15 = cn len := (nfu.2.2 15 (by decide) (by decide) (by decide) (by decide)).trans hl
        have fin : (b = len ∨ dgv (T b) = 0) → pk (if (ci 5) ≤ (cn b - cn q) then b1 (F_X12_next0_208 (ci 1) u) fun τ => some (Sum.inr τ) else b1 (F_X12_next0_208 (ci 2) u) fun τ => some (Sum.inr τ)) (se (fun u => NF s u ∧ u.1 88 18 = cn q ∧ ∃ b, q ≤ b ∧ b ≤ len ∧ (∀ k, q ≤ k → k < b → ¬ dgv (T k) = 0) ∧ u.1 88 16 = cn b ∧ (b - q ≤ 4 → u.1 88 19 = nv T q (b - q))) (NXT r T len p s)) := by
          intro hf
          have ht : Tok T len p q b := ⟨hrun, Or.inr ⟨hq, Or.inr (Or.inl ⟨hL, hD, bb1, bb2, bb3, hf⟩)⟩⟩
          unfold F_X12_next0_208
          dsimp only
          rw [cn_sub bb1 (by omega), b1_some, b1_some]
          by_cases h5 : 5 ≤ b - q
          · rw [if_pos ((cle (x := ci 5) (a := 5) (y := cn (b - q)) rfl rfl (by omega) (by omega)).mpr h5)]
            exact pk_some (show NXT r T len p s _ from ⟨NF_mu nfu (by omega), q, b, ht, (mu_cellQ (by omega)).trans u18, (mu_cellQ (by omega)).trans u16, Or.inr ⟨hq, Or.inr (Or.inl ⟨hL, hD, Or.inr ⟨by omega, mu_sameQ⟩⟩)⟩, fun _ _ _ h => absurd h (by omega)⟩)
          · rw [if_neg (fun z => h5 ((cle (x := ci 5) (a := 5) (y := cn (b - q)) rfl rfl (by omega) (by omega)).mp z))]
            exact pk_some (show NXT r T len p s _ from ⟨NF_mu nfu (by omega), q, b, ht, (mu_cellQ (by omega)).trans u18, (mu_cellQ (by omega)).trans u16, Or.inr ⟨hq, Or.inr (Or.inl ⟨hL, hD, Or.inl ⟨by omega, mu_sameQ⟩⟩)⟩, fun _ _ _ _ => (mu_cellQ (by omega)).trans (u19 (by omega))⟩)
        unfold F_X12_next0_B126 F_X12_next0_176
        rw [u16, u18, V_see vT vl hlen bb2, b1_some, V_isDigit12, b1_some, b1_some]
        by_cases hbl : b < len
        · simp only [if_pos hbl]
          by_cases hk : dgv (T b) = 0
          · rw [if_pos hk]; exact fin (Or.inr hk)
          · rw [if_neg hk, show cn q + ci 4 = cn (q + 4) from cn_add (b := 4) (by omega)]
            have run : ∀ k, q ≤ k → k < b + 1 → ¬ dgv (T k) = 0 := fun k h1 h2 => by
              by_cases hkb : k = b
              · subst hkb; exact hk
              · exact bb3 k h1 (by omega)
            by_cases h4 : q + 4 ≤ b
            · rw [if_pos ((cn_le (by omega) (by omega)).mpr h4)]
              exact pk_some (show NF s _ ∧ _ from ⟨NF_mu nfu (by omega), (mu_cellQ (by omega)).trans u18, b + 1, by omega, by omega, run, by rw [cnu (by omega)]; exact mu_sameQ, fun z => absurd z (by omega)⟩)
            · rw [if_neg (fun z => h4 ((cn_le (by omega) (by omega)).mp z))]
              refine pk_some (show NF s _ ∧ _ from ⟨NF_mu (NF_mu nfu (by omega)) (by omega), (mu_cellQ (by omega)).trans ((mu_cell (by omega)).trans u18), b + 1, by omega, by omega, run, ?_, fun _ => ?_⟩)
              · refine mu_sameQ.trans ?_
                show mu u.1 88 19 (((c8 10 * u.1 88 19) + T b) - c8 48) 88 16 + ci 1 = _
                rw [mu_cell (by omega), u16, cnu (by omega)]
              · refine (mu_cellQ (by omega)).trans (mu_same.trans ?_)
                rw [u19 (by omega), show b + 1 - q = (b - q) + 1 by omega]
                show _ = ((nv T q (b - q) * c8 10) + T (q + (b - q))) - c8 48
                rw [show q + (b - q) = b by omega, Int32.mul_comm]
        · simp only [if_neg hbl]
          rw [if_pos dgv_m1]; exact fin (Or.inl (by omega))
    · rw [if_neg hL]
      unfold F_X12_next0_L76
      refine pk_b1r (pk_whl (fun u => NF s u ∧ u.1 88 18 = cn q ∧ ∃ b, q ≤ b ∧ b ≤ len ∧ (∀ k, q ≤ k → k < b → ¬ ltv (T k) = 0) ∧ u.1 88 16 = cn b) ⟨nf8, e18, q, Nat.le_refl _, g2, fun k h1 h2 => absurd h1 (by omega), e16⟩ (fun u hu => ?_))
      obtain ⟨nfu, u18, b, bb1, bb2, bb3, u16⟩ := hu
      have vT : ∀ k, k < len → u.1 95 k = T k := fun k hk => (congrFun (nfu.2.1 95 (by decide)) k).trans (hT k hk)
      have vl : u.1 88 15 = cn len := (nfu.2.2 15 (by decide) (by decide) (by decide) (by decide)).trans hl
      have v11 : u.1 88 11 = cn r := (nfu.2.2 11 (by decide) (by decide) (by decide) (by decide)).trans h11
      have fin : (b = len ∨ ltv (T b) = 0) → pk (b1 (F_X12_word u) fun v51 => let s52 : mG := (mu u.1 88 17 v51, u.2); some (Sum.inr s52)) (se (fun u => NF s u ∧ u.1 88 18 = cn q ∧ ∃ b, q ≤ b ∧ b ≤ len ∧ (∀ k, q ≤ k → k < b → ¬ ltv (T k) = 0) ∧ u.1 88 16 = cn b) (NXT r T len p s)) := by
        intro hf
        refine pk_b1 (V_word (fun k hk => vT k (by omega)) u18 u16 bb1 (by omega) hr v11) (fun v hv => ?_)
        exact pk_some (show NXT r T len p s _ from ⟨NF_mu nfu (by omega), q, b, ⟨hrun, Or.inr ⟨hq, Or.inl ⟨hL, bb1, bb2, bb3, hf⟩⟩⟩, (mu_cellQ (by omega)).trans u18, (mu_cellQ (by omega)).trans u16, Or.inr ⟨hq, Or.inl ⟨hL, by rw [show ((mu u.1 88 17 v, u.2) : mG).1 88 17 = v from mu_sameQ]; exact hv⟩⟩, fun _ h => absurd h hL⟩)
      unfold F_X12_next0_B76
      rw [u16, V_see vT vl hlen bb2, b1_some, V_isLetter12, b1_some]
      by_cases hbl : b < len
      · simp only [if_pos hbl]
        by_cases hk : ltv (T b) = 0
        · rw [if_pos hk]; exact fin (Or.inr hk)
        · rw [if_neg hk, cnu (by omega)]
          refine pk_some (show NF s _ ∧ _ from ⟨NF_mu nfu (by omega), (mu_cellQ (by omega)).trans u18, b + 1, by omega, by omega, fun k h1 h2 => ?_, mu_sameQ⟩)
          by_cases hkb : k = b
          · subst hkb; exact hk
          · exact bb3 k h1 (by omega)
      · simp only [if_neg hbl]
        rw [if_pos lt2_m1]; exact fin (Or.inl (by omega))
  · simp only [if_neg hq]
    have eq : q = len := by omega
    subst eq
    have e16 : (mu u.1 88 18 (cn q), u.2).1 88 16 = cn q := (mu_cellQ (by omega)).trans g4
    have e15 : (mu u.1 88 18 (cn q), u.2).1 88 15 = cn q := (mu_cellQ (by omega)).trans ul
    have eT : ∀ k, k < q → (mu u.1 88 18 (cn q), u.2).1 95 k = T k := fun k hk => (congrFun (mu_rowQ (by omega)) k).trans (uT k hk)
    rw [if_neg (by decide), if_neg (by decide)]
    try dsimp only
    rw [show (mu u.1 88 18 (cn q)) 88 16 = cn q from e16, V_see eT e15 hlen (Nat.le_refl _), b1_some, if_neg hq, if_pos rfl]
    refine pk_some (show NXT r T q p s _ from ⟨NF_mu (NF_mu nf (by omega)) (by omega), q, q, ⟨⟨g1, g2, g3, Or.inl rfl⟩, Or.inl ⟨rfl, rfl⟩⟩, ?_, ?_, Or.inl ⟨rfl, ?_⟩, fun h => absurd h (by omega)⟩)
    · exact (mu_cellQ (by omega)).trans mu_same
    · exact (mu_cellQ (by omega)).trans e16
    · exact mu_sameQ.trans c0e0
end
