noncomputable section
/-! BOTH SIDES HOLD THE SAME HOUSE, PAST AND IMAGE -/
def IMGr (a b : mG) : Prop := PB (b.1 88 4) ∧ a.1 0 2 = b.1 88 4 ∧ (TS 19 11 12 a ∧ TS 21 5 150 a ∧ TS 31 4 8 a ∧ TS 33 3 8 a) ∧ (b.1 88 4 ≠ 0 → HSr 18 a.1 (b.1 90) ∧ ∃ n nc, n ≤ 12 ∧ a.1 19 3 = cn n ∧ a.1 25 3 = cn nc ∧ LTy nc (b.1 90) ∧ VIm n (b.1 90))
def SIM (a b : mG) : Prop := (∃ n nb nc, n ≤ 12 ∧ nb ≤ 150 ∧ a.1 2 3 = cn n ∧ a.1 4 3 = cn nb ∧ a.1 8 3 = cn nc ∧ HSr 1 a.1 (b.1 89) ∧ LTy nc (b.1 89) ∧ VIm n (b.1 89)) ∧ PSr a.1 (b.1 88) (b.1 91) ∧ IMGr a b
theorem HSr18_row {D E : Nat → Nat → Int32} {w : Nat → Int32} (H : HSr 18 D w) (r : ∀ j, 18 ≤ j → j ≤ 34 → E j = D j) : HSr 18 E w := by
  obtain ⟨t1, t2, t3, t4, t5, t6, t7, t8, c1, c2, c3, c4⟩ := H
  refine ⟨TWr_same t1 (r _ (by decide) (by decide)) (r _ (by decide) (by decide)) rfl (fun _ _ _ _ => rfl), TWr_same t2 (r _ (by decide) (by decide)) (r _ (by decide) (by decide)) rfl (fun _ _ _ _ => rfl), LWr_same t3 (r _ (by decide) (by decide)) (r _ (by decide) (by decide)) (fun _ _ => rfl), CWr_same t4 (r _ (by decide) (by decide)) (r _ (by decide) (by decide)) (fun _ _ _ => rfl), TWr_same t5 (r _ (by decide) (by decide)) (r _ (by decide) (by decide)) rfl (fun _ _ _ _ => rfl), TWr_same t6 (r _ (by decide) (by decide)) (r _ (by decide) (by decide)) rfl (fun _ _ _ _ => rfl), TWr_same t7 (r _ (by decide) (by decide)) (r _ (by decide) (by decide)) rfl (fun _ _ _ _ => rfl), TWr_same t8 (r _ (by decide) (by decide)) (r _ (by decide) (by decide)) rfl (fun _ _ _ _ => rfl), ?_, ?_, ?_, ?_⟩
  · rw [r 18 (by decide) (by decide)]; exact c1
  · rw [r 18 (by decide) (by decide)]; exact c2
  · rw [r 18 (by decide) (by decide)]; exact c3
  · rw [r 18 (by decide) (by decide)]; exact c4
end
