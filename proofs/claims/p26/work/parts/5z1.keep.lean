noncomputable section
/-! THE PAST ON BOTH SIDES -/
/-- moment m of the class, n guests, is what W keeps; its floors and its second cells are those of the house -/
def MOr (m n : Nat) (D : Nat → Nat → Int32) (W : Nat → Int32) : Prop := D (37 + 3 * m) 1 = W 2 ∧ D (37 + 3 * m) 2 = W 0 ∧ D (37 + 3 * m) 3 = W 1 ∧ D (37 + 3 * m + 1) 3 = cn n ∧ ∀ r c, r < n → c < 11 → D (37 + 3 * m + 1 + 1) (r * 11 + c) = if c < 2 then D 3 (r * 11 + c) else W (ixG r c)
/-- the shape of a moment's table -/
def MSh (t : Nat) (D : Nat → Nat → Int32) : Prop := D t 0 = cn 12 ∧ D t 1 = cn 11 ∧ ∃ k, k ≤ 12 ∧ D t 3 = cn k
theorem MSh_row {t : Nat} {D D' : Nat → Nat → Int32} (h : MSh t D) (e : D' t = D t) : MSh t D' := by
  unfold MSh
  rw [e]
  exact h
/-- what holds of a guest's cells: out or in, a key only of him who is out, the hours since -/
def VIg (f : Nat → Int32) (g : Nat) : Prop := (f (3 + g) = ci 0 ∨ f (3 + g) = ci 1) ∧ (f (3 + g) = ci 0 → f (15 + g) = ci (-1)) ∧ 0 ≤ (f (27 + g)).toInt ∧ (f (27 + g)).toInt ≤ 999
def VIm (n : Nat) (f : Nat → Int32) : Prop := 0 ≤ (f 0).toInt ∧ (f 0).toInt ≤ 9999 ∧ ∀ g, g < n → VIg f g
theorem VIm_congr {n : Nat} {f f' : Nat → Int32} (hn : n ≤ 12) (e : ∀ k, k < 112 → f' k = f k) (h : VIm n f) : VIm n f' := by
  obtain ⟨h1, h2, h3⟩ := h
  unfold VIm
  rw [e 0 (by omega)]
  refine ⟨h1, h2, fun g hg => ?_⟩
  unfold VIg
  rw [e (3 + g) (by omega), e (15 + g) (by omega), e (27 + g) (by omega)]
  exact h3 g hg
def PSr (D : Nat → Nat → Int32) (w88 w91 : Nat → Int32) : Prop := ∃ (c t n nb : Nat) (bk : Nat → Nat), c ≤ 6 ∧ t < 6 ∧ n ≤ 12 ∧ nb ≤ 150 ∧ D 35 1 = cn c ∧ D 35 2 = cn t ∧ w88 3 = cn c ∧ D 2 3 = cn n ∧ D 4 3 = cn nb ∧ (∀ i, i < c → bk i ≤ nb ∧ w91 (112 * i + 2) = cn (bk i)) ∧ (∀ i, i + 1 < c → bk i ≤ bk (i + 1)) ∧ (∀ i, i < 6 → MSh (37 + 3 * i + 1) D) ∧ ∀ i, i < c → MOr ((t + 6 - c + i) % 6) n D (fun k => w91 (112 * i + k)) ∧ VIm n (fun k => w91 (112 * i + k))
theorem ixG_b {r c : Nat} (hr : r < 12) (h2 : ¬ c < 2) (hc : c < 11) : ixG r c < 112 := by
  unfold ixG
  rw [if_neg (by omega), if_neg (by omega)]
  by_cases e2 : c = 2
  · rw [if_pos e2]; omega
  rw [if_neg e2]
  by_cases e3 : c = 3
  · rw [if_pos e3]; omega
  rw [if_neg e3]
  by_cases e4 : c = 4
  · rw [if_pos e4]; omega
  rw [if_neg e4]; omega
/-- both keep -/
theorem PSr_keep {s u : mG} {w w88 w91 w88' w91' : Nat → Int32} {c t n nb : Nat} {bk : Nat → Nat} (hH : HSr 1 s.1 w) (hc : c ≤ 6) (ht : t < 6) (hn : n ≤ 12) (p1 : s.1 35 1 = cn c) (p2 : s.1 35 2 = cn t) (p3 : s.1 2 3 = cn n) (hnb : nb ≤ 150) (p4 : s.1 4 3 = cn nb) (hb : ∀ i, i < c → bk i ≤ nb ∧ w91 (112 * i + 2) = cn (bk i)) (hb2 : ∀ i, i + 1 < c → bk i ≤ bk (i + 1)) (hm : ∀ i, i < 6 → MSh (37 + 3 * i + 1) s.1) (hP : ∀ i, i < c → MOr ((t + 6 - c + i) % 6) n s.1 (fun k => w91 (112 * i + k)) ∧ VIm n (fun k => w91 (112 * i + k))) (hV : VIm n w) (hK : KEo t c n s u) (k3 : w88' 3 = cn (if c < 6 then c + 1 else 6)) (k91 : w91' = if c < 6 then ovr (112 * c) 112 w w91 else ovr 560 112 w (shd w91 560)) : PSr u.1 w88' w91' := by
  obtain ⟨_, y2, y3, y4, y5, y6, y7, y8, y9, y10⟩ := hK
  obtain ⟨⟨_, _, ng, hng, g3, gc, gx⟩, ⟨_, _, nb2, hnb2, b3, bc, _⟩, _, _, _, _, _, _, _, _, h10, h11⟩ := hH
  have eng : ng = n := (cn_inj (by omega) (by omega)).mp (g3.symm.trans p3)
  subst eng
  have enb : nb2 = nb := (cn_inj (by omega) (by omega)).mp (b3.symm.trans p4)
  subst enb
  have r2 : u.1 2 = s.1 2 := y2 2 (by decide) (by omega)
  have r3 : u.1 3 = s.1 3 := y2 3 (by decide) (by omega)
  -- the new moment
  have new : MOr t ng u.1 w := by
    refine ⟨y6.trans (b3.trans bc.symm), y7.trans h10, y8.trans h11, y4.trans p3, fun r c' hr hc' => ?_⟩
    rw [y5 (r * 11 + c') (by omega), r3]
    by_cases h2 : c' < 2
    · rw [if_pos h2]
    · rw [if_neg h2]; exact gx r c' hr hc'
  -- an old one that is not overwritten
  have old : ∀ m W, m < 6 → m ≠ t → MOr m ng s.1 W → MOr m ng u.1 W := fun m W hm6 hmt q => by
    have e0 : u.1 (37 + 3 * m) = s.1 (37 + 3 * m) := y2 _ (by omega) (by omega)
    have e1 : u.1 (37 + 3 * m + 1) = s.1 (37 + 3 * m + 1) := y2 _ (by omega) (by omega)
    have e2 : u.1 (37 + 3 * m + 1 + 1) = s.1 (37 + 3 * m + 1 + 1) := y2 _ (by omega) (by omega)
    unfold MOr
    rw [e0, e1, e2, r3]
    exact q
  -- a moment by what it keeps below 112
  have cong : ∀ m W W', (∀ k, k < 112 → W' k = W k) → MOr m ng u.1 W → MOr m ng u.1 W' := fun m W W' hw q => by
    obtain ⟨q1, q2, q3, q4, q5⟩ := q
    refine ⟨q1.trans (hw 2 (by omega)).symm, q2.trans (hw 0 (by omega)).symm, q3.trans (hw 1 (by omega)).symm, q4, fun r c' hr hc' => ?_⟩
    rw [q5 r c' hr hc']
    by_cases h2 : c' < 2
    · rw [if_pos h2, if_pos h2]
    · rw [if_neg h2, if_neg h2, hw _ (ixG_b (by omega) h2 hc')]
  refine ⟨if c < 6 then c + 1 else 6, (t + 1) % 6, ng, nb2, if c < 6 then (fun i => if i = c then nb2 else bk i) else (fun i => if i = 5 then nb2 else bk (i + 1)), by split <;> omega, by omega, hn, hnb, y9, y10, k3, by rw [r2]; exact p3, ?_, fun i hi => ?_, fun i hi => ?_, fun i hi => ?_, fun i hi => ?_⟩
  · rw [y2 4 (by decide) (by omega)]; exact p4
  · by_cases h6 : c < 6
    · rw [if_pos h6] at hi k91 ⊢
      try dsimp only
      by_cases e : i = c
      · rw [if_pos e, k91, e]
        unfold ovr
        rw [if_pos (by omega), show 112 * c + 2 - 112 * c = 2 by omega]
        exact ⟨Nat.le_refl _, bc⟩
      · rw [if_neg e, k91]
        unfold ovr
        rw [if_neg (by omega)]
        exact hb i (by omega)
    · have hc6 : c = 6 := by omega
      subst hc6
      rw [if_neg h6] at hi k91 ⊢
      try dsimp only
      by_cases e : i = 5
      · rw [if_pos e, k91, e]
        unfold ovr
        rw [if_pos (by omega), show 112 * 5 + 2 - 560 = 2 by omega]
        exact ⟨Nat.le_refl _, bc⟩
      · rw [if_neg e, k91]
        unfold ovr shd
        rw [if_neg (by omega), if_pos (by omega), show 112 * i + 2 + 112 = 112 * (i + 1) + 2 by omega]
        exact hb (i + 1) (by omega)
  · by_cases h6 : c < 6
    · rw [if_pos h6] at hi ⊢
      try dsimp only
      rw [if_neg (show ¬ i = c by omega)]
      by_cases e : i + 1 = c
      · rw [if_pos e]; exact (hb i (by omega)).1
      · rw [if_neg e]; exact hb2 i (by omega)
    · rw [if_neg h6] at hi ⊢
      try dsimp only
      rw [if_neg (show ¬ i = 5 by omega)]
      by_cases e : i + 1 = 5
      · rw [if_pos e]; exact (hb (i + 1) (by omega)).1
      · rw [if_neg e]; exact hb2 (i + 1) (by omega)
  · by_cases e : i = t
    · subst e
      have q := hm i hi
      exact ⟨(y3 0 (by decide)).trans q.1, (y3 1 (by decide)).trans q.2.1, ng, hn, y4.trans p3⟩
    · exact MSh_row (hm i hi) (y2 (37 + 3 * i + 1) (by omega) (by omega))
  · by_cases h6 : c < 6
    · rw [if_pos h6] at hi k91 ⊢
      by_cases e : i = c
      · subst e
        rw [show ((t + 1) % 6 + 6 - (i + 1) + i) % 6 = t by omega]
        have ek : ∀ k, k < 112 → (fun k => w91' (112 * i + k)) k = w k := fun k hk => by
          show w91' (112 * i + k) = w k
          rw [k91]
          unfold ovr
          rw [if_pos (by omega), show 112 * i + k - 112 * i = k by omega]
        exact ⟨cong t w _ ek new, VIm_congr hn ek hV⟩
      · rw [show ((t + 1) % 6 + 6 - (c + 1) + i) % 6 = (t + 6 - c + i) % 6 by omega]
        have ek : ∀ k, k < 112 → (fun k => w91' (112 * i + k)) k = (fun k => w91 (112 * i + k)) k := fun k hk => by
          show w91' (112 * i + k) = w91 (112 * i + k)
          rw [k91]
          unfold ovr
          rw [if_neg (by omega)]
        exact ⟨cong _ (fun k => w91 (112 * i + k)) _ ek (old _ _ (by omega) (by omega) (hP i (by omega)).1), VIm_congr hn ek (hP i (by omega)).2⟩
    · have hc6 : c = 6 := by omega
      subst hc6
      rw [if_neg h6] at hi k91 ⊢
      by_cases e : i = 5
      · subst e
        rw [show ((t + 1) % 6 + 6 - 6 + 5) % 6 = t by omega]
        have ek : ∀ k, k < 112 → (fun k => w91' (112 * 5 + k)) k = w k := fun k hk => by
          show w91' (112 * 5 + k) = w k
          rw [k91]
          unfold ovr
          rw [if_pos (by omega), show 112 * 5 + k - 560 = k by omega]
        exact ⟨cong t w _ ek new, VIm_congr hn ek hV⟩
      · rw [show ((t + 1) % 6 + 6 - 6 + i) % 6 = (t + 6 - 6 + (i + 1)) % 6 by omega]
        have ek : ∀ k, k < 112 → (fun k => w91' (112 * i + k)) k = (fun k => w91 (112 * (i + 1) + k)) k := fun k hk => by
          show w91' (112 * i + k) = w91 (112 * (i + 1) + k)
          rw [k91]
          unfold ovr shd
          rw [if_neg (by omega), if_pos (by omega), show 112 * i + k + 112 = 112 * (i + 1) + k by omega]
        exact ⟨cong _ (fun k => w91 (112 * (i + 1) + k)) _ ek (old _ _ (by omega) (by omega) (hP (i + 1) (by omega)).1), VIm_congr hn ek (hP (i + 1) (by omega)).2⟩
end
