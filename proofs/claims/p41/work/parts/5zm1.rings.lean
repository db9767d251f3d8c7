noncomputable section
/-! RINGS OF KEYS -/
theorem pk_li {c : Prop} [Decidable c] {α : Type} {x y : Option α} {P : α → Prop} (h1 : c → pk x P) (h2 : ¬ c → pk y P) : pk (if c then x else y) P := by
  by_cases q : c
  · rw [if_pos q]; exact h1 q
  · rw [if_neg q]; exact h2 q
/-- how many of the first k -/
def cBt (f : Nat → Bool) : Nat → Nat
  | 0 => 0
  | k + 1 => cBt f k + (if f k = true then 1 else 0)
theorem cBt_add {f g : Nat → Bool} {j : Nat} (h : ∀ i, i ≠ j → g i = f i) (hf : f j = false) (hg : g j = true) : ∀ k, cBt g k = cBt f k + (if j < k then 1 else 0) := by
  intro k
  induction k with
  | zero => rfl
  | succ k ih =>
    unfold cBt
    rw [ih]
    by_cases e : k = j
    · subst e
      rw [hf, hg, if_neg (show ¬ k < k by omega), if_pos (show k < k + 1 by omega), if_pos rfl, if_neg (show ¬ (false = true) by decide)]
    · rw [h k e]
      by_cases l : j < k
      · rw [if_pos l, if_pos (show j < k + 1 by omega)]; omega
      · rw [if_neg l, if_neg (show ¬ j < k + 1 by omega), Nat.add_zero, Nat.add_zero]
theorem cBt_le {f : Nat → Bool} {n : Nat} (h : ∀ i, f i = true → i < n) : ∀ k, cBt f k ≤ k ∧ cBt f k ≤ n := by
  intro k
  induction k with
  | zero => exact ⟨Nat.le_refl _, Nat.zero_le _⟩
  | succ k ih =>
    unfold cBt
    by_cases e : f k = true
    · have := h k e
      rw [if_pos e]; omega
    · rw [if_neg e]; omega
theorem cBt_0 {f : Nat → Bool} (h : ∀ i, i < 12 → f i = false) : cBt f 12 = 0 := by
  have q : ∀ k, k ≤ 12 → cBt f k = 0 := by
    intro k
    induction k with
    | zero => intro _; rfl
    | succ k ih =>
      intro hk
      unfold cBt
      rw [ih (by omega), h k (by omega), if_neg (by decide)]
  exact q 12 (by decide)
/-- a word's bits, all of them below 12 -/
theorem lo12 {v : Int32} (h : ∀ i, i < 32 → btk v i = true → i < 12) : ∃ x y, x < 64 ∧ y < 64 ∧ v = cn (64 * x + y) := by
  have hm : v.toBitVec.toNat < 2 ^ 12 := Nat.lt_pow_two_of_testBit _ (fun i hi => by
    by_cases hi2 : i < 32
    · cases e : Nat.testBit v.toBitVec.toNat i with
      | false => rfl
      | true => exact absurd (h i hi2 e) (by omega)
    · exact BitVec.getLsbD_of_ge v.toBitVec i (by omega))
  have hm : v.toBitVec.toNat < 4096 := hm
  refine ⟨v.toBitVec.toNat / 64, v.toBitVec.toNat % 64, by omega, by omega, Int32.toBitVec_inj.mp (BitVec.eq_of_toNat_eq ?_)⟩
  show _ = (BitVec.ofNat 32 (64 * (v.toBitVec.toNat / 64) + v.toBitVec.toNat % 64)).toNat
  rw [BitVec.toNat_ofNat]
  omega
theorem bc_12 : ∀ x, x < 64 → ∀ y, y < 64 → F_J6_bitCount_0f7a4 s0 (cn (64 * x + y)) = some (cn (cBt (btk (cn (64 * x + y))) 12)) := by decide +kernel
theorem sr_1 : ∀ x, x < 64 → ∀ y, y < 64 → ∀ k, k < 12 → (cn (64 * x + y) >>> (cn k &&& 31)) &&& ci 1 = if btk (cn (64 * x + y)) k = true then cn 1 else cn 0 := by decide +kernel
end
