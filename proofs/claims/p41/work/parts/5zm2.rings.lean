noncomputable section
theorem V_bcs {s t : mG} {v : Int32} : F_J6_bitCount_0f7a4 s v = F_J6_bitCount_0f7a4 t v := rfl
theorem V_bits {s : mG} {v : Int32} (h : ∀ i, i < 32 → btk v i = true → i < 12) : F_J6_bitCount_0f7a4 s v = some (cn (cBt (btk v) 12)) := by
  obtain ⟨x, y, hx, hy, e⟩ := lo12 h
  rw [e]
  exact (V_bcs (t := s0)).trans (bc_12 x hx y hy)
theorem V_count {s : mG} {v : Int32} (h : ∀ i, i < 32 → btk v i = true → i < 12) : pk (F_X12_count s v) (fun u => u = cn (cBt (btk v) 12)) := by
  obtain ⟨x, y, hx, hy, e⟩ := lo12 h
  unfold F_X12_count F_X12_count_L4
  refine pk_whl (fun z => z.1 = v ∧ ∃ k, k ≤ 12 ∧ z.2.1 = cn (cBt (btk v) k) ∧ z.2.2 = cn k) ⟨rfl, 0, by omega, rfl, rfl⟩ (fun z hz => ?_)
  obtain ⟨x0, x1, x2⟩ := z
  obtain ⟨q1o, k, hk, q2o, q3o⟩ := hz
  have q1 : v = x0 := (show x0 = v from q1o).symm
  have q2 : x1 = cn (cBt (btk v) k) := q2o
  have q3 : x2 = cn k := q3o
  subst q1; subst q2; subst q3
  unfold F_X12_count_B4
  dsimp only
  by_cases h12 : 12 ≤ k
  · have ek : k = 12 := by omega
    rw [if_pos (show c8 12 ≤ cn k from (cn_le (a := 12) (by omega) (by omega)).mpr h12)]
    exact pk_some (show cn (cBt (btk v) k) = cn (cBt (btk v) 12) by rw [ek])
  · rw [if_neg (show ¬ c8 12 ≤ cn k from fun q => h12 ((cn_le (a := 12) (by omega) (by omega)).mp q))]
    have s1 : (v >>> (cn k &&& 31)) &&& ci 1 = if btk v k = true then cn 1 else cn 0 := by
      rw [e]; exact sr_1 x hx y hy k (by omega)
    have hb : cBt (btk v) k ≤ k := (cBt_le (f := btk v) (n := 1000) (fun i hi => by
      by_cases hi2 : i < 32
      · have := h i hi2 hi; omega
      · have q : btk v i = false := BitVec.getLsbD_of_ge v.toBitVec i (by omega)
        rw [q] at hi; cases hi) k).1
    rw [s1]
    refine pk_some (show _ ∧ ∃ k', _ from ⟨rfl, k + 1, by omega, ?_, cnu (by omega)⟩)
    show cn (cBt (btk v) k) + (if btk v k = true then cn 1 else cn 0) = cn (cBt (btk v) k + (if btk v k = true then 1 else 0))
    by_cases eb : btk v k = true
    · rw [if_pos eb, if_pos eb]; exact cn_add (by omega)
    · rw [if_neg eb, if_neg eb]; exact cn_add (by omega)
/-! the hooks one after the other -/
def pth (w : Nat → Int32) (a : Nat) : Nat → Nat
  | 0 => a
  | i + 1 => (w (15 + pth w a i)).toNatClampNeg
/-- k steps that come to no end and not back -/
def Wk (w : Nat → Int32) (n a k : Nat) : Prop := a < n ∧ ∀ i, i < k → w (15 + pth w a i) = cn (pth w a (i + 1)) ∧ pth w a (i + 1) < n ∧ pth w a (i + 1) ≠ a
def Rng (w : Nat → Int32) (n a k : Nat) : Prop := 2 ≤ k ∧ k ≤ n ∧ Wk w n a (k - 1) ∧ w (15 + pth w a (k - 1)) = cn a
def Ded (w : Nat → Int32) (n a : Nat) : Prop := ∃ k, Wk w n a k ∧ (w (15 + pth w a k) = ci (-1) ∨ w (15 + pth w a k) = cn (pth w a k))
theorem Wk_lt {w : Nat → Int32} {n a k : Nat} (h : Wk w n a k) : ∀ i, i ≤ k → pth w a i < n := by
  intro i hi
  cases i with
  | zero => exact h.1
  | succ i => exact (h.2 i (by omega)).2.1
theorem Wk_up {w : Nat → Int32} {n a k j : Nat} (h : Wk w n a k) (hn : n ≤ 12) (hw : w (15 + pth w a k) = cn j) (hj : j < n) (hne : j ≠ a) : Wk w n a (k + 1) ∧ pth w a (k + 1) = j := by
  have e : pth w a (k + 1) = j := by
    show (w (15 + pth w a k)).toNatClampNeg = j
    rw [hw, cn_nat (by omega)]
  refine ⟨⟨h.1, fun i hi => ?_⟩, e⟩
  by_cases q : i = k
  · rw [q, e]; exact ⟨hw, hj, hne⟩
  · exact h.2 i (by omega)
/-- all of them differ -/
theorem Wk_new {s : mG} {n a k : Nat} (hI : IM s) (g2 : s.1 89 112 = cn n) (hn : n ≤ 12) (h : Wk (s.1 89) n a k) : ∀ m, m ≤ k → ∀ i, i < m → pth (s.1 89) a i ≠ pth (s.1 89) a m := by
  intro m
  induction m with
  | zero => intro _ i hi; exact absurd hi (by omega)
  | succ m ih =>
    intro hm i hi e
    have hm1 := h.2 m (by omega)
    cases i with
    | zero => exact hm1.2.2 e.symm
    | succ i =>
      have hi1 := h.2 i (by omega)
      have q := KI_j hI g2 hn (Wk_lt h i (by omega)) (Wk_lt h m (by omega)) (by rw [hi1.1, hm1.1, e]) (by rw [hi1.1]; exact cn_nm1 (by have := hi1.2.1; omega))
      exact ih (by omega) i (by omega) q
/-- the set of what was passed -/
def Msk (w : Nat → Int32) (a k : Nat) (x : Int32) : Prop := (∀ i, i < 32 → (btk x i = true ↔ ∃ j, j < k ∧ pth w a j = i)) ∧ cBt (btk x) 12 = k
theorem Msk_0 {w : Nat → Int32} {a : Nat} : Msk w a 0 (ci 0) :=
  ⟨fun i hi => ⟨fun q => absurd q (bt_0n hi), fun q => (by obtain ⟨j, hj, _⟩ := q; exact absurd hj (by omega))⟩, cBt_0 (fun i hi => bt_0 i (by omega))⟩
theorem Msk_up {s : mG} {n a k : Nat} {x : Int32} (hI : IM s) (g2 : s.1 89 112 = cn n) (hn : n ≤ 12) (h : Wk (s.1 89) n a k) (hx : Msk (s.1 89) a k x) : Msk (s.1 89) a (k + 1) (x ||| (ci 1 <<< (cn (pth (s.1 89) a k) &&& 31))) := by
  have lt := Wk_lt h k (Nat.le_refl _)
  have bit : ∀ i, i < 32 → btk (x ||| (ci 1 <<< (cn (pth (s.1 89) a k) &&& 31))) i = (btk x i || decide (i = pth (s.1 89) a k)) := fun i hi => by
    rw [bt_or, bt_bit _ (by omega) i hi]
  refine ⟨fun i hi => ?_, ?_⟩
  · rw [bit i hi, Bool.or_eq_true, hx.1 i hi]
    constructor
    · intro q
      rcases q with q | q
      · obtain ⟨j, hj, q⟩ := q
        exact ⟨j, by omega, q⟩
      · exact ⟨k, by omega, (of_decide_eq_true q).symm⟩
    · intro q
      obtain ⟨j, hj, q⟩ := q
      by_cases e : j = k
      · rw [e] at q; exact Or.inr (decide_eq_true q.symm)
      · exact Or.inl ⟨j, by omega, q⟩
  · have no : btk x (pth (s.1 89) a k) = false := by
      cases e : btk x (pth (s.1 89) a k) with
      | false => rfl
      | true =>
        obtain ⟨j, hj, q⟩ := (hx.1 _ (by omega)).mp e
        exact absurd q (Wk_new hI g2 hn h k (Nat.le_refl _) j hj)
    have out : ∀ (v : Int32) i, ¬ i < 32 → btk v i = false := fun v i hi => BitVec.getLsbD_of_ge v.toBitVec i (by omega)
    have c := cBt_add (f := btk x) (g := btk (x ||| (ci 1 <<< (cn (pth (s.1 89) a k) &&& 31)))) (j := pth (s.1 89) a k) (fun i hi => by
      by_cases h32 : i < 32
      · rw [bit i h32, decide_eq_false hi, Bool.or_false]
      · rw [out _ i h32, out _ i h32]) no (by rw [bit _ (by omega), decide_eq_true rfl, Bool.or_true]) 12
    rw [c, hx.2, if_pos (by omega)]
theorem Msk_le {s : mG} {n a k : Nat} {x : Int32} (h : Wk (s.1 89) n a k) (hx : Msk (s.1 89) a (k + 1) x) : k + 1 ≤ n := by
  have q := (cBt_le (f := btk x) (n := n) (fun i hi => by
    by_cases h32 : i < 32
    · obtain ⟨j, hj, q⟩ := (hx.1 i h32).mp hi
      rw [← q]; exact Wk_lt h j (by omega)
    · have q : btk x i = false := BitVec.getLsbD_of_ge x.toBitVec i (by omega)
      rw [q] at hi; cases hi) 12).2
  rw [hx.2] at q
  exact q
theorem V_ringOf {s : mG} {n a : Nat} (hI : IM s) (H : HSr 1 s.1 (s.1 89)) (e2 : s.1 2 3 = cn n) (g2 : s.1 89 112 = cn n) (hn : n ≤ 12) (ha : a < n) : pk (F_X8_ringOf s (cn a)) (fun v => (v = ci 0 ∧ Ded (s.1 89) n a) ∨ ∃ k, Rng (s.1 89) n a k ∧ Msk (s.1 89) a k v) := by
  unfold F_X8_ringOf F_X8_ringOf_L7
  refine pk_whl (fun v => v.1 = cn a ∧ ∃ k, Wk (s.1 89) n a k ∧ Msk (s.1 89) a k v.2.1 ∧ v.2.2.1 = cn (pth (s.1 89) a k) ∧ v.2.2.2 = cn k) ⟨rfl, 0, ⟨ha, fun i hi => absurd hi (by omega)⟩, Msk_0, rfl, rfl⟩ (fun v hv => ?_)
  obtain ⟨x1, x2, x3, x4⟩ := v
  obtain ⟨q1o, k, W, Mo, q3o, q4o⟩ := hv
  have q1 : x1 = cn a := q1o
  have M : Msk (s.1 89) a k x2 := Mo
  have q3 : x3 = cn (pth (s.1 89) a k) := q3o
  have q4 : x4 = cn k := q4o
  subst q1; subst q3; subst q4
  have lt := Wk_lt W k (Nat.le_refl _)
  have M2 := Msk_up hI g2 hn W M
  have kn := Msk_le W M2
  unfold F_X8_ringOf_B7 F_X8_hangsWrong F_X8_hangsWrong_27
  dsimp only
  rw [if_neg (show ¬ c8 12 ≤ cn k from fun q => absurd ((cn_le (a := 12) (by omega) (by omega)).mp q) (by omega)), V_atG (c := 3) (k := ci 3) H.1 e2 hn lt (by decide) rfl, b1_some, show ixG (pth (s.1 89) a k) 3 = 15 + pth (s.1 89) a k from rfl, b1_some]
  rcases KI_c hI g2 hn lt with q | ⟨j, hj, q⟩
  · rw [if_pos q, b1_some, if_pos c0e0]
    exact pk_some (Or.inl ⟨rfl, k, W, Or.inl q⟩)
  rw [if_neg (by rw [q]; exact cn_nm1 (by omega))]
  by_cases e : s.1 89 (15 + pth (s.1 89) a k) = cn (pth (s.1 89) a k)
  · rw [if_pos e, b1_some, if_pos c0e0]
    exact pk_some (Or.inl ⟨rfl, k, W, Or.inr e⟩)
  rw [if_neg e, b1_some, if_neg c1n0]
  by_cases ej : s.1 89 (15 + pth (s.1 89) a k) = cn a
  · rw [if_pos ej]
    have k1 : 1 ≤ k := by
      cases k with
      | zero => exact absurd ej e
      | succ k => omega
    exact pk_some (Or.inr ⟨k + 1, ⟨by omega, kn, by rw [Nat.add_sub_cancel]; exact W, by rw [Nat.add_sub_cancel]; exact ej⟩, M2⟩)
  · rw [if_neg ej]
    obtain ⟨W2, ep⟩ := Wk_up W hn q hj (fun z => ej (by rw [q, z]))
    refine pk_some (show _ ∧ ∃ k', _ from ⟨rfl, k + 1, W2, M2, ?_, cnu (by omega)⟩)
    show s.1 89 (15 + pth (s.1 89) a k) = cn (pth (s.1 89) a (k + 1))
    rw [ep]; exact q
/-- the reference follows a ring: its length -/
theorem V_ringR {s : mG} {n a k : Nat} (g2 : s.1 89 112 = cn n) (hn : n ≤ 12) (R : Rng (s.1 89) n a k) : pk (F_X12_ring_L14 s (cn a) (ci 0) (cn a)) (fun v => v = cn k) := by
  obtain ⟨k2, kn, W, hw⟩ := R
  unfold F_X12_ring_L14
  refine pk_whl (fun v => v.1 = cn a ∧ ∃ i, i ≤ k ∧ v.2.1 = cn i ∧ v.2.2 = cn (if i < k then pth (s.1 89) a i else a)) ⟨rfl, 0, by omega, rfl, by rw [if_pos (by omega)]; rfl⟩ (fun v hv => ?_)
  obtain ⟨x1, x2, x3⟩ := v
  obtain ⟨q1o, i, hi, q2o, q3o⟩ := hv
  have q1 : x1 = cn a := q1o
  have q2 : x2 = cn i := q2o
  have q3 : x3 = cn (if i < k then pth (s.1 89) a i else a) := q3o
  subst q1; subst q2; subst q3
  unfold F_X12_ring_B14 F_X12_ring_55 F_X12_ring_69 F_X12_ring_39
  dsimp only
  have an := W.1
  rw [g2]
  by_cases hik : i < k
  · rw [if_pos hik]
    have lt := Wk_lt W i (by omega)
    have st : s.1 89 (15 + pth (s.1 89) a i) = cn (if i + 1 < k then pth (s.1 89) a (i + 1) else a) := by
      by_cases e : i + 1 < k
      · rw [if_pos e]; exact (W.2 i (by omega)).1
      · rw [if_neg e, show i = k - 1 by omega]; exact hw
    rw [if_neg (cn_nm1 (by omega)), if_neg (fun q => absurd ((cn_lt (by omega) (by omega)).mp q) (by omega)), show c8 15 + cn (pth (s.1 89) a i) = cn (15 + pth (s.1 89) a i) from cn_add (a := 15) (by omega), cn_nat (n := 15 + pth (s.1 89) a i) (by omega)]
    have go : pk (if cn (15 + pth (s.1 89) a i) < 0 ∨ 1894 ≤ 15 + pth (s.1 89) a i then none else some (Sum.inl (cn a, cn i + ci 1, s.1 89 (15 + pth (s.1 89) a i))) : Option ((Int32 × Int32 × Int32) ⊕ Int32)) (se (fun v : Int32 × Int32 × Int32 => v.1 = cn a ∧ ∃ i, i ≤ k ∧ v.2.1 = cn i ∧ v.2.2 = cn (if i < k then pth (s.1 89) a i else a)) (fun v : Int32 => v = cn k)) := pk_nn (pk_some (show _ ∧ ∃ i', _ from ⟨rfl, i + 1, by omega, cnu (by omega), st⟩))
    cases i with
    | zero =>
      rw [if_pos (show cn 0 = 0 by decide)]
      exact go
    | succ i =>
      rw [if_neg (show ¬ cn (i + 1) = 0 from fun q => absurd ((cn_inj (b := 0) (by omega) (by omega)).mp q) (by omega)), if_neg (show ¬ cn (pth (s.1 89) a (i + 1)) = cn a from fun q => (W.2 i (by omega)).2.2 ((cn_inj (by omega) (by omega)).mp q))]
      exact go
  · have ek : i = k := by omega
    rw [if_neg hik, if_pos rfl, if_neg (show ¬ cn i ≤ ci 1 from fun q => absurd ((cn_le (b := 1) (by omega) (by omega)).mp q) (by omega)), b1_some, if_neg (cn_nm1 (by omega)), if_neg (show ¬ cn i = 0 from fun q => absurd ((cn_inj (b := 0) (by omega) (by omega)).mp q) (by omega))]
    rw [ek]
    exact pk_li (fun _ => pk_some rfl) (fun _ => by rw [if_pos rfl]; exact pk_some rfl)
/-- no ring: nothing -/
def DdS (w : Nat → Int32) (a k i : Nat) (y : Int32) : Prop := y = ci (-1) ∨ (i ≤ k ∧ y = cn (pth w a i)) ∨ (k ≤ i ∧ y = cn (pth w a k) ∧ w (15 + pth w a k) = cn (pth w a k))
theorem DdS_up {w : Nat → Int32} {n a k i : Nat} (W : Wk w n a k) (D : w (15 + pth w a k) = ci (-1) ∨ w (15 + pth w a k) = cn (pth w a k)) {y : Int32} (hn : n ≤ 12) (h : DdS w a k i y) (hy : ¬ y = ci (-1)) : ∃ p, p < n ∧ y = cn p ∧ DdS w a k (i + 1) (w (15 + p)) := by
  rcases h with h | ⟨h1, h2⟩ | ⟨h1, h2, h3⟩
  · exact absurd h hy
  · refine ⟨_, Wk_lt W i h1, h2, ?_⟩
    by_cases e : i = k
    · subst e
      rcases D with d | d
      · exact Or.inl d
      · exact Or.inr (Or.inr ⟨by omega, d, d⟩)
    · exact Or.inr (Or.inl ⟨by omega, (W.2 i (by omega)).1⟩)
  · exact ⟨_, Wk_lt W k (Nat.le_refl _), h2, Or.inr (Or.inr ⟨by omega, h3, h3⟩)⟩
theorem DdS_a {w : Nat → Int32} {n a k i : Nat} (W : Wk w n a k) (hn : n ≤ 12) (h : DdS w a k i (cn a)) : i ≤ 1 ∨ (k = 0 ∧ w (15 + a) = cn a) := by
  have an := W.1
  rcases h with h | ⟨h1, h2⟩ | ⟨h1, h2, h3⟩
  · exact absurd h (cn_nm1 (by omega))
  · cases i with
    | zero => exact Or.inl (by omega)
    | succ i =>
      have q := W.2 i (by omega)
      exact absurd ((cn_inj (by omega) (by have := q.2.1; omega)).mp h2).symm q.2.2
  · cases k with
    | zero => exact Or.inr ⟨rfl, h3⟩
    | succ k =>
      have q := W.2 k (by omega)
      exact absurd ((cn_inj (by omega) (by have := q.2.1; omega)).mp h2).symm q.2.2
end
