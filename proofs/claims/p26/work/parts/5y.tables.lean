noncomputable section
/-! A TABLE OF THE CLASS AND ITS PLACE IN A ROW OF THE REFERENCE -/
/-- table t of width W, at most M rows, counted at cnt, its cell (r, c) at ix r c -/
def TWr (t W M cnt : Nat) (ix : Nat → Nat → Nat) (D : Nat → Nat → Int32) (w : Nat → Int32) : Prop := D t 0 = cn M ∧ D t 1 = cn W ∧ ∃ n, n ≤ M ∧ D t 3 = cn n ∧ w cnt = cn n ∧ ∀ r c, r < n → c < W → D (t + 1) (r * W + c) = w (ix r c)
theorem TWr_same {t W M cnt : Nat} {ix : Nat → Nat → Nat} {D D' : Nat → Nat → Int32} {w w' : Nat → Int32} (h : TWr t W M cnt ix D w) (e0 : D' t = D t) (e1 : D' (t + 1) = D (t + 1)) (ec : w' cnt = w cnt) (ew : ∀ r c, r < M → c < W → w' (ix r c) = w (ix r c)) : TWr t W M cnt ix D' w' := by
  obtain ⟨h0, h1, n, hn, h3, hc, hx⟩ := h
  unfold TWr
  rw [e0, e1, ec]
  exact ⟨h0, h1, n, hn, h3, hc, fun r c hr hcc => (hx r c hr hcc).trans (ew r c (by omega) hcc).symm⟩
/-- a cell is put on both sides -/
theorem TWr_put {t W M cnt : Nat} {ix : Nat → Nat → Nat} {D D' : Nat → Nat → Int32} {w w' : Nat → Int32} {n r c : Nat} {v : Int32} (h : TWr t W M cnt ix D w) (h3 : D t 3 = cn n) (hr : r < n) (hc : c < W) (hM : M < 2147483648)
    (e0 : D' t = D t) (e1 : ∀ k, D' (t + 1) k = if k = r * W + c then v else D (t + 1) k) (ec : w' cnt = w cnt) (ew : ∀ r' c', r' < M → c' < W → w' (ix r' c') = if r' = r ∧ c' = c then v else w (ix r' c')) : TWr t W M cnt ix D' w' := by
  obtain ⟨h0, h1, m, hm, g3, gc, hx⟩ := h
  have hmn : n = m ∨ ¬ n = m := by omega
  unfold TWr
  rw [e0, ec]
  refine ⟨h0, h1, m, hm, g3, gc, fun r' c' hr' hc' => ?_⟩
  rw [e1, ew r' c' (by omega) hc']
  have inj : r' * W + c' = r * W + c ↔ r' = r ∧ c' = c := by
    constructor
    · intro q
      have q1 : (r' * W + c') / W = (r * W + c) / W := by rw [q]
      rw [Nat.mul_comm r', Nat.mul_comm r, Nat.mul_add_div (by omega), Nat.mul_add_div (by omega), Nat.div_eq_of_lt hc', Nat.div_eq_of_lt hc] at q1
      have q2 : r' = r := by omega
      subst q2
      exact ⟨rfl, by omega⟩
    · intro q
      rw [q.1, q.2]
  by_cases q : r' = r ∧ c' = c
  · rw [if_pos (inj.mpr q), if_pos q]
  · rw [if_neg (fun e => q (inj.mp e)), if_neg q]
    exact hx r' c' hr' hc'
/-- a whole row is added on both sides -/
theorem TWr_add {t W M cnt : Nat} {ix : Nat → Nat → Nat} {D D' : Nat → Nat → Int32} {w w' : Nat → Int32} {n : Nat} (h : TWr t W M cnt ix D w) (h3 : D t 3 = cn n) (hn : n < M) (hM : M < 2147483648)
    (e0 : ∀ c, c ≠ 3 → D' t c = D t c) (e3 : D' t 3 = cn (n + 1)) (e1 : ∀ k, k < n * W → D' (t + 1) k = D (t + 1) k) (ec : w' cnt = cn (n + 1)) (ew : ∀ r c, r < n → c < W → w' (ix r c) = w (ix r c)) (en : ∀ c, c < W → D' (t + 1) (n * W + c) = w' (ix n c)) : TWr t W M cnt ix D' w' := by
  obtain ⟨h0, h1, m, hm, g3, gc, hx⟩ := h
  have e : m = n := (cn_inj (by omega) (by omega)).mp (g3.symm.trans h3)
  subst e
  refine ⟨(e0 0 (by decide)).trans h0, (e0 1 (by decide)).trans h1, m + 1, by omega, e3, ec, fun r c hr hc => ?_⟩
  by_cases q : r = m
  · rw [q]; exact en c hc
  · have hrw : r * W + c < m * W := by
      have h4 : (r + 1) * W ≤ m * W := Nat.mul_le_mul_right W (by omega)
      rw [Nat.add_mul, Nat.one_mul] at h4
      omega
    rw [e1 _ hrw, hx r c (by omega) hc, ew r c (by omega) hc]
/-- what a reading gives on both sides -/
theorem TWr_at {t W M cnt : Nat} {ix : Nat → Nat → Nat} {s : mG} {w : Nat → Int32} {a1 a2 : Int32} {n r c : Nat} (h : TWr t W M cnt ix s.1 w) (h3 : s.1 t 3 = cn n) (hn : n ≤ M) (hr : r < n) (hc : c < W) (h1 : a1 = cn r) (h2 : a2 = cn c) (hM : M < 2147483648) (hl : M * W ≤ m_alen (t + 1)) : F_X10_at t s a1 a2 = some (w (ix r c)) := by
  obtain ⟨_, g1, m, hm, g3, gc, hx⟩ := h
  have e : m = n := (cn_inj (by omega) (by omega)).mp (g3.symm.trans h3)
  subst e
  have hl2 : m * W ≤ m_alen (t + 1) := Nat.le_trans (Nat.mul_le_mul_right W hm) hl
  rw [V_at h1 h2 g1 g3 hr hc hl2 (by omega), hx r c hr hc]
/-! the tables of a house -/
def ixG (r c : Nat) : Nat := if c = 0 then 119 + r else if c = 1 then 131 + r else if c = 2 then 3 + r else if c = 3 then 15 + r else if c = 4 then 27 + r else 39 + 6 * r + (c - 5)
def ixB (r c : Nat) : Nat := 235 + 5 * r + c
def ixS (r c : Nat) : Nat := 143 + 2 * r + c
def ixH (r c : Nat) : Nat := 155 + 4 * r + c
def ixR (r c : Nat) : Nat := 203 + 4 * r + c
def ixC (r c : Nat) : Nat := 1870 + 3 * r + c
/-- the law's lines: the word is 20 more in the reference -/
def LWr (t : Nat) (D : Nat → Nat → Int32) (w : Nat → Int32) : Prop := D t 0 = cn 16 ∧ D t 1 = cn 4 ∧ ∃ n, n ≤ 16 ∧ D t 3 = cn n ∧ w 117 = cn n ∧ ∀ r, r < n → D (t + 1) (r * 4 + 1) = w (985 + r) ∧ D (t + 1) (r * 4 + 2) = w (1001 + r) ∧ D (t + 1) (r * 4 + 3) = w (1017 + r) ∧ ∃ x, x < 6 ∧ D (t + 1) (r * 4 + 0) = cn x ∧ w (1033 + r) = cn (20 + x)
/-- the law's steps -/
def CWr (t : Nat) (D : Nat → Nat → Int32) (w : Nat → Int32) : Prop := D t 0 = cn 400 ∧ D t 1 = cn 1 ∧ ∃ n, n ≤ 400 ∧ D t 3 = cn n ∧ ∀ j, j < n → EN (D (t + 1) j) (w (1050 + 2 * j)) (w (1050 + 2 * j + 1))
def HSr (h : Nat) (D : Nat → Nat → Int32) (w : Nat → Int32) : Prop := TWr (h + 1) 11 12 112 ixG D w ∧ TWr (h + 3) 5 150 2 ixB D w ∧ LWr (h + 5) D w ∧ CWr (h + 7) D w ∧ TWr (h + 9) 2 6 115 ixS D w ∧ TWr (h + 11) 4 12 116 ixH D w ∧ TWr (h + 13) 4 8 118 ixR D w ∧ TWr (h + 15) 3 8 1049 ixC D w ∧ D h 8 = w 113 ∧ D h 9 = w 114 ∧ D h 10 = w 0 ∧ D h 11 = w 1
end
