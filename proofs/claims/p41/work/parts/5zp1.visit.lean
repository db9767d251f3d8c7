noncomputable section
/-! THE BEST HOUR FOR A VISIT, on both sides -/
theorem Su_le {x x' : Int32} {y y' : Int64} (h : Su x y) (h' : Su x' y') : x ≤ x' ↔ ¬ 0 < lg_cmp y y' := by
  have e1 := Su_t h
  have e2 := Su_t h'
  have e3 := lg_cmp_gt y y'
  rw [Int64.lt_iff_toInt_lt, e1, e2] at e3
  rw [e3, Int32.le_iff_toInt_le]
  exact Int.not_lt.symm
theorem mix_i {X P Q : Int} (h0 : 0 ≤ X) (h1 : X ≤ 1000000) (p0 : 0 ≤ P) (p1 : P ≤ 1000) (q0 : 0 ≤ Q) (q1 : Q ≤ 1000) : ∃ A B C D : Int, X * P = A ∧ (1000000 - X) * Q = B ∧ A / 1000 = C ∧ B / 1000 = D ∧ (0 ≤ A ∧ A < 2147483648) ∧ (0 ≤ B ∧ B < 2147483648) ∧ (0 ≤ X - C ∧ X - C < 2147483648) ∧ 0 ≤ X - C + D ∧ X - C + D ≤ 1000000 := by
  have a0 : 0 ≤ X * P := Int.mul_nonneg h0 p0
  have a1 : X * P ≤ X * 1000 := Int.mul_le_mul_of_nonneg_left p1 h0
  have d0 : 0 ≤ (1000000 - X) * Q := Int.mul_nonneg (by omega) q0
  have d1 : (1000000 - X) * Q ≤ (1000000 - X) * 1000 := Int.mul_le_mul_of_nonneg_left q1 (by omega)
  generalize X * P = A at a0 a1
  generalize (1000000 - X) * Q = B at d0 d1
  exact ⟨A, B, A / 1000, B / 1000, rfl, rfl, rfl, rfl, ⟨a0, by omega⟩, ⟨d0, by omega⟩, ⟨by omega, by omega⟩, by omega, by omega⟩
end
