noncomputable section
/-! who is a guest, here and there -/
theorem ig_cn {x : Int32} {n : Nat} (hn : n < 2147483648) (h : ¬ ig x (cn n) = 0) : ∃ g, g < n ∧ x = cn g := by
  unfold ig at h
  by_cases h1 : x < 0
  · rw [if_pos h1] at h; exact absurd c0e0 h
  rw [if_neg h1] at h
  by_cases h2 : cn n ≤ x
  · rw [if_pos h2] at h; exact absurd c0e0 h
  have q0 := t_nn h1
  have q1 := r_nle (t_cn hn) (rfl : x.toInt = _) h2
  exact ⟨x.toInt.toNat, by omega, cnof q0⟩
theorem V_isGuestR {b : mG} {x : Int32} {n : Nat} (h : b.1 89 112 = cn n) (hn : n ≤ 12) : F_X12_isGuest b x = some (ig x (cn n)) := by
  unfold F_X12_isGuest
  rw [F_isIn, b1_some, h, wi_ig (by rw [t_cn (by omega)]; omega)]
  exact if_pos ig_pb
theorem V_isSignR {b : mG} {x : Int32} {n : Nat} (h : b.1 89 115 = cn n) (hn : n ≤ 12) : F_X12_isSign b x = some (ig x (cn n)) := by
  unfold F_X12_isSign
  rw [F_isIn, b1_some, h, wi_ig (by rw [t_cn (by omega)]; omega)]
  exact if_pos ig_pb
theorem V_isSignC {a : mG} {x : Int32} : F_X2_isSign 1 a x = some (ig x (a.1 10 3)) := by
  unfold F_X2_isSign
  rw [V_hasRow, b1_some]
  exact if_pos ig_pb
/-- the counts on both sides -/
theorem SIM_n {a b : mG} {n : Nat} (H : HSr 1 a.1 (b.1 89)) (e : a.1 2 3 = cn n) : b.1 89 112 = cn n := by
  obtain ⟨⟨_, _, m, hm, g3, gc, _⟩, _⟩ := H
  rw [gc]; exact g3.symm.trans e
theorem CFh_lo {a u v : mG} (lo : ∀ j, j < 35 → u.1 j = a.1 j) (h : CFh u v) : ∀ j, j ≠ 1 → j ≠ 3 → j ≠ 4 → j ≠ 5 → j < 35 → v.1 j = a.1 j := fun j h1 h2 h3 h4 h5 => (h j h1 h2 h3 h4 (by omega) (by omega) (by omega)).trans (lo j h5)
theorem VIg_put {E : Nat → Nat → Int32} {g i k : Nat} {v : Int32} (h : VIg (E 89) i) (hk : k ≠ 3 + i ∧ k ≠ 15 + i ∧ k ≠ 27 + i) : VIg (mu E 89 k v 89) i := by
  unfold VIg
  rw [mu_cell (Or.inr (Ne.symm hk.1)), mu_cell (Or.inr (Ne.symm hk.2.1)), mu_cell (Or.inr (Ne.symm hk.2.2))]
  exact h
end
