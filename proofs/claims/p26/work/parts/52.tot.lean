/-! WHAT EVERY PRINTED FUNCTION NEEDS TO COME TO AN ANSWER -/
theorem whl_tot {σ ρ : Type} {body : σ → Option (σ ⊕ ρ)} (P : σ → Prop) (Q : ρ → Prop) (f : σ → Nat) (hb : ∀ v, P v → (∃ v', body v = some (.inl v') ∧ P v' ∧ f v' < f v) ∨ ∃ a, body v = some (.inr a) ∧ Q a) : ∀ v, P v → ∃ a, whl body v = some a ∧ Q a := by
  have key : ∀ (n : Nat) (v : σ), f v = n → P v → ∃ a, whl body v = some a ∧ Q a := by
    intro n
    induction n using Nat.strongRecOn with
    | _ n ih =>
      intro v hn hv
      rw [whl_eq]
      rcases hb v hv with ⟨v', h1, h2, h3⟩ | ⟨a, h1, h2⟩
      · rw [h1]; exact ih (f v') (hn ▸ h3) v' rfl h2
      · rw [h1]; exact ⟨a, rfl, h2⟩
  intro v hv
  exact key (f v) v rfl hv
theorem idx_ok {n : Nat} {x : Int32} (hn : n < 2147483648) (h0 : ¬ x < 0) (h1 : ¬ cn n ≤ x) : ¬ (x < 0 ∨ n ≤ x.toNatClampNeg) := by
  have e : (cn n).toInt = n := Int32.toInt_ofNat_of_lt hn
  rw [Int32.le_iff_toInt_le, e] at h1
  rintro (h | h)
  · exact h0 h
  · have h2 : x.toNatClampNeg = x.toInt.toNat := rfl
    have h3 : (0 : Int32).toInt = 0 := by decide
    rw [Int32.lt_iff_toInt_lt, h3] at h0
    omega
theorem m_alen_lt (t : Nat) : m_alen t < 2147483648 := by
  have h : ∀ k, k < SH.length → m_alen k < 2147483648 := by decide +kernel
  by_cases ht : t < SH.length
  · exact h t ht
  · unfold m_alen
    rw [List.getElem?_eq_none (Nat.le_of_not_lt ht)]
    decide
/-- a table's cell can always be read .. -/
theorem X10_at_tot (t : Nat) (s : mG) (a b : Int32) : ∃ v, F_X10_at t s a b = some v := by
  have h67 : F_X10_at_67 t s = some (ci 0) := rfl
  have h38 : ∀ x y, ∃ v, F_X10_at_38 t s x y = some v := by
    intro x y
    unfold F_X10_at_38
    rw [h67]
    by_cases h1 : y = 0
    · rw [if_pos h1]; exact ⟨_, rfl⟩
    · rw [if_neg h1]
      by_cases h2 : x < 0
      · rw [if_pos h2]; exact ⟨_, rfl⟩
      · rw [if_neg h2]
        by_cases h3 : cn (m_alen (t + 1)) ≤ x
        · rw [if_pos h3]; exact ⟨_, rfl⟩
        · rw [if_neg h3, if_neg (idx_ok (m_alen_lt _) h2 h3)]; exact ⟨_, rfl⟩
  have h37 : ∀ x, ∃ v, F_X10_at_37 t s x = some v := fun x => h38 x _
  unfold F_X10_at
  dsimp only
  repeat' split
  all_goals first
    | exact h37 _
    | exact h38 _ _
/-- .. and written; only its row's numbers change -/
theorem X10_put_tot (t : Nat) (s : mG) (a b c : Int32) : ∃ s', F_X10_put t a b c s = some s' ∧ s'.2 = s.2 ∧ ∀ i, i ≠ t + 1 → s'.1 i = s.1 i := by
  have h39 : ∀ x y z, ∃ s', F_X10_put_39 t x y z s = some s' ∧ s'.2 = s.2 ∧ ∀ i, i ≠ t + 1 → s'.1 i = s.1 i := by
    intro x y z
    unfold F_X10_put_39
    by_cases h1 : z = 0
    · rw [if_pos h1]; exact ⟨s, rfl, rfl, fun _ _ => rfl⟩
    · rw [if_neg h1]
      by_cases h2 : y < 0
      · rw [if_pos h2]; exact ⟨s, rfl, rfl, fun _ _ => rfl⟩
      · rw [if_neg h2]
        by_cases h3 : cn (m_alen (t + 1)) ≤ y
        · rw [if_pos h3]; exact ⟨s, rfl, rfl, fun _ _ => rfl⟩
        · rw [if_neg h3, if_neg (idx_ok (m_alen_lt _) h2 h3)]
          exact ⟨_, rfl, rfl, fun i hi => by simp [mu, hi]⟩
  have h38 : ∀ x y, ∃ s', F_X10_put_38 t x y s = some s' ∧ s'.2 = s.2 ∧ ∀ i, i ≠ t + 1 → s'.1 i = s.1 i := fun x y => h39 x y _
  unfold F_X10_put
  dsimp only
  repeat' split
  all_goals first
    | exact h38 _ _
    | exact h39 _ _ _
/-- a row's cell can always be read -/
theorem X11_cell_tot {j n : Nat} {q : List (Option Nat)} (hj : SH[j]? = some (.inl (0, n, q))) (s : mG) (i : Int32) : ∃ v, F_X11_cell j s i = some v := by
  have h1 : mal j = some n := by unfold mal; rw [hj]; rfl
  have hn : n < 2147483648 := by
    have h := m_alen_lt j
    unfold m_alen at h
    rw [hj] at h
    exact h
  unfold F_X11_cell F_X11_cell_20
  rw [h1]
  simp only [b1_some]
  by_cases h2 : i < 0
  · rw [if_pos h2]; exact ⟨_, rfl⟩
  · rw [if_neg h2]
    by_cases h3 : cn n ≤ i
    · rw [if_pos h3]; exact ⟨_, rfl⟩
    · have h4 : mia s j i = some (s.1 j i.toNatClampNeg) := by
        unfold mia
        rw [hj]
        simp only [if_neg (idx_ok hn h2 h3)]
      rw [if_neg h3, h4]
      exact ⟨_, rfl⟩
/-- .. and written -/
theorem X11_put_tot {j n : Nat} {q : List (Option Nat)} (hj : SH[j]? = some (.inl (0, n, q))) (s : mG) (i x : Int32) : ∃ s', F_X11_put j i x s = some s' ∧ s'.2 = s.2 ∧ ∀ k, k ≠ j → s'.1 k = s.1 k := by
  have h1 : mal j = some n := by unfold mal; rw [hj]; rfl
  have hn : n < 2147483648 := by
    have h := m_alen_lt j
    unfold m_alen at h
    rw [hj] at h
    exact h
  unfold F_X11_put
  rw [h1]
  simp only [b1_some]
  by_cases h2 : i < 0
  · rw [if_pos h2]; exact ⟨s, rfl, rfl, fun _ _ => rfl⟩
  · rw [if_neg h2]
    by_cases h3 : cn n ≤ i
    · rw [if_pos h3]; exact ⟨s, rfl, rfl, fun _ _ => rfl⟩
    · rw [if_neg h3, hj]
      simp only [bs]
      rw [if_neg (idx_ok hn h2 h3)]
      exact ⟨_, rfl, rfl, fun k hk => by simp [mu, hk]⟩
