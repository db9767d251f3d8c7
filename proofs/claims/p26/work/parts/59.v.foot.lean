noncomputable section
/-! THE ROWS THAT A FUNCTION MAY WRITE -/
def sub (A B : Nat) : Prop := ∀ j : Nat, A.testBit j = true → B.testBit j = true
theorem sub_rfl {A : Nat} : sub A A := fun _ h => h
theorem sub_and {A B : Nat} (h : A &&& B = A) : sub A B := fun j hj => by
  have h2 : (A &&& B).testBit j = true := by rw [h]; exact hj
  rw [Nat.testBit_and, Bool.and_eq_true] at h2
  exact h2.2
theorem sub_tr {A B C : Nat} (h : A &&& B = A) (k : sub B C) : sub A C := fun j hj => k j (sub_and h j hj)
def KB (M : Nat) (z s : mG) : Prop := ∀ j : Nat, M.testBit j = false → s.1 j = z.1 j
theorem KB_rfl {M : Nat} {s : mG} : KB M s s := fun _ _ => rfl
theorem KB_mu {M : Nat} {z s : mG} {i k : Nat} {v : Int32} (h : KB M z s) (d : M.testBit i = true) : KB M z (mu s.1 i k v, s.2) := fun j hj => by
  have e : j ≠ i := fun e => by
    subst e
    rw [d] at hj
    cases hj
  exact (mu_row e : mu s.1 i k v j = s.1 j).trans (h j hj)
theorem mom_37 {s : mG} {a1 : Int32} {m : Nat} (h : F_X5_momentAt s a1 = some (some m)) : ∃ i, i < 6 ∧ m = 37 + 3 * i := by
  unfold F_X5_momentAt F_X5_momentAt_22 at h
  by_cases h1 : a1 < 0
  · rw [if_pos h1] at h; cases h
  · rw [if_neg h1] at h
    by_cases h2 : cn 6 ≤ a1
    · rw [if_pos h2] at h; cases h
    · rw [if_neg h2] at h
      by_cases h3 : a1 < 0 ∨ 6 ≤ a1.toNatClampNeg
      · rw [if_pos h3] at h; cases h
      · rw [if_neg h3] at h
        have e := Option.some.inj (Option.some.inj h)
        exact ⟨a1.toNatClampNeg, by omega, e.symm⟩
theorem mom_bit {s : mG} {a1 : Int32} {m k : Nat} (h : F_X5_momentAt s a1 = some (some m)) (hk : k < 3) : Nat.testBit 36028659580010496 (m + k) = true := by
  obtain ⟨i, hi, rfl⟩ := mom_37 h
  have : ∀ i, i < 6 → ∀ k, k < 3 → Nat.testBit 36028659580010496 (37 + 3 * i + k) = true := by decide
  exact this i hi k hk
end
