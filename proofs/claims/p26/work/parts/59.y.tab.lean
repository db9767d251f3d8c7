noncomputable section
/-! TABLES BY VALUE: places as natural numbers -/
theorem cn_t {n : Nat} (h : n < 2147483648) : (cn n).toInt = n := t_cn h
theorem cn_nat {n : Nat} (h : n < 2147483648) : (cn n).toNatClampNeg = n := by rw [t_nat, t_cn h]; rfl
theorem cn_lt {a b : Nat} (ha : a < 2147483648) (hb : b < 2147483648) : cn a < cn b ↔ a < b := by
  rw [Int32.lt_iff_toInt_lt, t_cn ha, t_cn hb]; omega
theorem cn_le {a b : Nat} (ha : a < 2147483648) (hb : b < 2147483648) : cn a ≤ cn b ↔ a ≤ b := by
  rw [Int32.le_iff_toInt_le, t_cn ha, t_cn hb]; omega
theorem cn_inj {a b : Nat} (ha : a < 2147483648) (hb : b < 2147483648) : cn a = cn b ↔ a = b := by
  constructor
  · intro h
    have h2 : (cn a).toInt = (cn b).toInt := by rw [h]
    rw [t_cn ha, t_cn hb] at h2
    omega
  · intro h; rw [h]
theorem cn_nn {n : Nat} (h : n < 2147483648) : ¬ cn n < 0 := t_of_nn (by rw [t_cn h]; omega)
theorem cnof {x : Int32} (h : 0 ≤ x.toInt) : x = cn x.toInt.toNat := Int32.toInt_inj.mp (by
  have := @t_lt x
  rw [t_cn (by omega)]; omega)
theorem cn_add {a b : Nat} (h : a + b < 2147483648) : cn a + cn b = cn (a + b) := Int32.toInt_inj.mp (by
  rw [t_add (by rw [t_cn (by omega), t_cn (by omega)]; omega) (by rw [t_cn (by omega), t_cn (by omega)]; omega), t_cn (by omega), t_cn (by omega), t_cn h]; omega)
theorem cn_mul {a b : Nat} (ha : a < 2147483648) (hb : b < 2147483648) (h : a * b < 2147483648) : cn a * cn b = cn (a * b) := Int32.toInt_inj.mp (by
  have e : (a : Int) * (b : Int) = ((a * b : Nat) : Int) := by rw [Int.natCast_mul]
  rw [t_mul (by rw [t_cn ha, t_cn hb, e]; omega) (by rw [t_cn ha, t_cn hb, e]; omega), t_cn ha, t_cn hb, t_cn h, e])
theorem cnu {a : Nat} (h : a + 1 < 2147483648) : cn a + ci 1 = cn (a + 1) := cn_add h
theorem cn_ix {a n : Nat} (ha : a < n) (hb : n < 2147483648) : ¬ (cn a < 0 ∨ n ≤ (cn a).toNatClampNeg) := by
  rw [cn_nat (by omega)]
  exact fun h => h.elim (cn_nn (by omega)) (by omega)
theorem mu_ap {D : Nat → Nat → Int32} {i k j l : Nat} {v : Int32} : mu D i k v j l = if j = i ∧ l = k then v else D j l := by
  by_cases h : j = i ∧ l = k
  · rw [if_pos h, h.1, h.2]; exact mu_same
  · rw [if_neg h]; exact mu_cell (by omega)
theorem V_at {t : Nat} {s : mG} {a1 a2 : Int32} {r c n W : Nat} (h1 : a1 = cn r) (h2 : a2 = cn c) (hw : s.1 t 1 = cn W) (hn : s.1 t 3 = cn n) (hr : r < n) (hc : c < W) (hl : n * W ≤ m_alen (t + 1)) (hb : n < 2147483648) : F_X10_at t s a1 a2 = some (s.1 (t + 1) (r * W + c)) := by
  have hm := m_alen_lt (t + 1)
  have hrw : r * W + c < n * W := by
    have h3 : (r + 1) * W ≤ n * W := Nat.mul_le_mul_right W (by omega)
    rw [Nat.add_mul, Nat.one_mul] at h3
    omega
  have hW : W ≤ n * W := Nat.le_mul_of_pos_left W (by omega)
  have e : cn r * s.1 t 1 + cn c = cn (r * W + c) := by
    rw [hw, cn_mul (by omega) (by omega) (by omega), cn_add (by omega)]
  subst h1; subst h2
  unfold F_X10_at F_X10_at_38
  dsimp only
  rw [e, hn, hw, if_neg (cn_nn (by omega)), if_neg (fun h => absurd ((cn_le (by omega) (by omega)).mp h) (by omega)), if_neg (cn_nn (by omega)), if_neg (fun h => absurd ((cn_le (by omega) (by omega)).mp h) (by omega)), if_neg (by decide), if_neg (cn_nn (by omega)), if_neg (fun h => absurd ((cn_le hm (by omega)).mp h) (by omega)), if_neg (cn_ix (by omega) hm), cn_nat (by omega)]
theorem V_put {t : Nat} {s : mG} {a1 a2 v : Int32} {r c n W : Nat} (h1 : a1 = cn r) (h2 : a2 = cn c) (hw : s.1 t 1 = cn W) (hn : s.1 t 3 = cn n) (hr : r < n) (hc : c < W) (hl : n * W ≤ m_alen (t + 1)) (hb : n < 2147483648) : F_X10_put t a1 a2 v s = some (mu s.1 (t + 1) (r * W + c) v, s.2) := by
  have hm := m_alen_lt (t + 1)
  have hrw : r * W + c < n * W := by
    have h3 : (r + 1) * W ≤ n * W := Nat.mul_le_mul_right W (by omega)
    rw [Nat.add_mul, Nat.one_mul] at h3
    omega
  have hW : W ≤ n * W := Nat.le_mul_of_pos_left W (by omega)
  have e : cn r * s.1 t 1 + cn c = cn (r * W + c) := by
    rw [hw, cn_mul (by omega) (by omega) (by omega), cn_add (by omega)]
  subst h1; subst h2
  unfold F_X10_put F_X10_put_39
  dsimp only
  rw [e, hn, hw, if_neg (cn_nn (by omega)), if_neg (fun h => absurd ((cn_le (by omega) (by omega)).mp h) (by omega)), if_neg (cn_nn (by omega)), if_neg (fun h => absurd ((cn_le (by omega) (by omega)).mp h) (by omega)), if_neg (by decide), if_neg (cn_nn (by omega)), if_neg (fun h => absurd ((cn_le hm (by omega)).mp h) (by omega)), if_neg (cn_ix (by omega) hm), cn_nat (by omega)]
theorem V_full {t : Nat} {s : mG} {n m : Nat} (h0 : s.1 t 0 = cn m) (h3 : s.1 t 3 = cn n) (hn : n < 2147483648) (hm : m < 2147483648) : F_X10_isFull t s = some (if n < m then ci 0 else ci 1) := by
  unfold F_X10_isFull
  rw [h0, h3]
  by_cases h : n < m
  · rw [if_pos h, if_pos ((cn_lt hn hm).mpr h)]
  · rw [if_neg h, if_neg (fun k => h ((cn_lt hn hm).mp k))]
theorem V_add {t : Nat} {s : mG} {n m : Nat} (h0 : s.1 t 0 = cn m) (h3 : s.1 t 3 = cn n) (hm : m < 2147483648) (h : n < m) : F_X10_add t s = some (cn n, (mu s.1 t 3 (cn (n + 1)), s.2)) := by
  unfold F_X10_add
  rw [V_full h0 h3 (by omega) hm, if_pos h, b1_some, if_pos (by decide), h3, cnu (by omega)]
  have e : (mu s.1 t 3 (cn (n + 1)), s.2).1 t 3 - ci 1 = cn n := by
    rw [mu_sameP, ← cnu (by omega)]
    exact Int32.add_sub_cancel _ _
  dsimp only
  rw [show mu s.1 t 3 (cn (n + 1)) t 3 - ci 1 = cn n from e]
theorem V_add1 {t : Nat} {s : mG} {n m : Nat} (h0 : s.1 t 0 = cn m) (h3 : s.1 t 3 = cn n) (hn : n < 2147483648) (hm : m < 2147483648) (h : ¬ n < m) : F_X10_add t s = some (ci (-1), s) := by
  unfold F_X10_add
  rw [V_full h0 h3 hn hm, if_neg h, b1_some, if_neg (by decide)]
/-- a table copied -/
def CPo (t a k : Nat) (s s' : mG) : Prop := s'.2 = s.2 ∧ (∀ i, i ≠ t → i ≠ t + 1 → s'.1 i = s.1 i) ∧ (∀ j, j ≠ 3 → s'.1 t j = s.1 t j) ∧ s'.1 t 3 = s.1 a 3 ∧ (∀ j, j < k → s'.1 (t + 1) j = s.1 (a + 1) j) ∧ ∀ j, k ≤ j → s'.1 (t + 1) j = s.1 (t + 1) j
theorem V_copy {t a : Nat} {s : mG} {n m W : Nat} (hd : a ≠ t ∧ a + 1 ≠ t ∧ a ≠ t + 1) (h0 : s.1 t 0 = cn m) (h3 : s.1 a 3 = cn n) (hw : s.1 t 1 = cn W) (hnm : n ≤ m) (hm : m < 2147483648) (hl : n * W ≤ m_alen (t + 1)) (hl2 : n * W ≤ m_alen (a + 1)) (hW : W < 2147483648) : pk (F_X10_copyFrom t a s) (CPo t a (n * W) s) := by
  have b1 := m_alen_lt (t + 1)
  have b2 := m_alen_lt (a + 1)
  unfold F_X10_copyFrom
  extract_lets s1 v2
  have e3 : s1.1 t 3 = cn n := by
    refine mu_sameP.trans ?_
    rw [h3, h0]
    exact if_neg fun k => absurd ((cn_lt (by omega) (by omega)).mp k) (by omega)
  have ev : v2 = cn (n * W) := by
    have e1 : s1.1 t 1 = cn W := (mu_cell (by omega)).trans hw
    show s1.1 t 3 * s1.1 t 1 = _
    rw [e3, e1, cn_mul (by omega) hW (by omega)]
  have q2 : s1.2 = s.2 := rfl
  have qr : ∀ i, i ≠ t → s1.1 i = s.1 i := fun i hi => mu_row hi
  have qc : ∀ j, j ≠ 3 → s1.1 t j = s.1 t j := fun j hj => mu_cell (Or.inr hj)
  clear_value v2 s1
  unfold F_X10_copyFrom_L27
  refine pk_whl (fun v => v.1 = cn (n * W) ∧ ∃ k, v.2.1 = cn k ∧ k ≤ n * W ∧ CPo t a k s v.2.2) ⟨ev, 0, rfl, Nat.zero_le _, q2, fun i h1 _ => qr i h1, qc, e3.trans h3.symm, fun j hj => absurd hj (by omega), fun j _ => congrFun (qr (t + 1) (by omega)) j⟩ (fun v hv => ?_)
  obtain ⟨x2, x3, u⟩ := v
  obtain ⟨g1, k, g2, g3, g4⟩ := hv
  have g1 : x2 = cn (n * W) := g1
  have g2 : x3 = cn k := g2
  have g4 : CPo t a k s u := g4
  obtain ⟨c1, c2, c3, c4, c5, c6⟩ := g4
  subst g1; subst g2
  unfold F_X10_copyFrom_B27
  by_cases hk : n * W ≤ k
  · rw [if_pos ((cn_le (by omega) (by omega)).mpr hk)]
    exact pk_some (show CPo t a (n * W) s u from ⟨c1, c2, c3, c4, fun j hj => c5 j (by omega), fun j hj => c6 j (by omega)⟩)
  · rw [if_neg (fun h => hk ((cn_le (by omega) (by omega)).mp h)), if_neg (fun h => absurd ((cn_le b1 (by omega)).mp h) (by omega)), if_neg (fun h => absurd ((cn_le b2 (by omega)).mp h) (by omega)), if_neg (cn_ix (by omega) b2), if_neg (cn_ix (by omega) b1), cn_nat (by omega), cnu (by omega)]
    have ea : u.1 (a + 1) k = s.1 (a + 1) k := congrFun (c2 (a + 1) (by omega) (by omega)) k
    refine pk_some (show _ ∧ _ from ⟨rfl, k + 1, rfl, by omega, c1, fun i h1 h2 => (mu_row h2).trans (c2 i h1 h2), fun j hj => (mu_cell (by omega)).trans (c3 j hj), (mu_cell (by omega)).trans c4, fun j hj => ?_, fun j hj => (mu_cell (by omega)).trans (c6 j (by omega))⟩)
    by_cases hjk : j = k
    · subst hjk; exact mu_same.trans ea
    · exact (mu_cell (Or.inr hjk)).trans (c5 j (by omega))
/-! the class's own tests -/
theorem V_within {s : mG} {a b c : Int32} : F_X11_isWithin s a b c = some (wi a b c) := by
  unfold F_X11_isWithin F_X11_isWithin_14 wi
  by_cases h1 : a < b
  · rw [if_pos h1, if_pos h1]
  · rw [if_neg h1, if_neg h1]
    by_cases h2 : c < a
    · rw [if_pos h2, if_pos h2]
    · rw [if_neg h2, if_neg h2]
theorem V_hasRow {t : Nat} {s : mG} {a : Int32} : F_X10_hasRow t s a = some (ig a (s.1 t 3)) := by
  unfold F_X10_hasRow F_X10_hasRow_16 ig
  by_cases h1 : a < 0
  · rw [if_pos h1, if_pos h1]
  · rw [if_neg h1, if_neg h1]
    by_cases h2 : s.1 t 3 ≤ a
    · rw [if_pos h2, if_pos h2]
    · rw [if_neg h2, if_neg h2]
theorem V_isGuest {h : Nat} {s : mG} {a : Int32} : F_X2_isGuest h s a = some (ig a (s.1 (h + 1) 3)) := by
  unfold F_X2_isGuest
  rw [V_hasRow, b1_some]
  exact if_pos ig_pb
end
