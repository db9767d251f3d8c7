noncomputable section
/-! WHAT THE REFERENCE KEEPS OF THE PAST, cell by cell -/
theorem E_keeps49 {s : mG} {c : Nat} (hc : c ≤ 5) (h : s.1 88 3 = cn c) : pk (F_X12_keeps_49 s) (fun u => (∀ j, j ≠ 88 → j ≠ 91 → u.1 j = s.1 j) ∧ (∀ k, k ≠ 3 → u.1 88 k = s.1 88 k) ∧ u.1 88 3 = cn (c + 1) ∧ u.1 91 = ovr (112 * c) 112 (s.1 89) (s.1 91)) := by
  unfold F_X12_keeps_49 F_X12_keeps_L51
  refine pk_whl (fun v => ∃ n, n ≤ 112 ∧ v.1 = cn n ∧ (∀ j, j ≠ 91 → v.2.1 j = s.1 j) ∧ v.2.1 91 = ovr (112 * c) n (s.1 89) (s.1 91)) ⟨0, by omega, rfl, fun j hj => rfl, ovr_0.symm⟩ (fun v hv => ?_)
  obtain ⟨x1, u⟩ := v
  obtain ⟨n, hn, e1, r, e91⟩ := hv
  have e1 : x1 = cn n := e1
  have r : ∀ j, j ≠ 91 → u.1 j = s.1 j := r
  have e91 : u.1 91 = ovr (112 * c) n (s.1 89) (s.1 91) := e91
  subst e1
  have e3 : u.1 88 3 = cn c := by rw [r 88 (by decide)]; exact h
  have q112 : (c8 112 ≤ cn n) ↔ 112 ≤ n := cn_le (a := 112) (by omega) (by omega)
  unfold F_X12_keeps_B51
  dsimp only
  rw [e3]
  by_cases hl : n = 112
  · subst hl
    rw [if_pos (q112.mpr (by omega)), cnu (by omega)]
    refine pk_some (show _ ∧ _ from ⟨fun j h1 h2 => ?_, fun k hk => ?_, ?_, ?_⟩)
    · dsimp only
      rw [mu_row h1]; exact r j h2
    · dsimp only
      rw [mu_cell (Or.inr hk), r 88 (by decide)]
    · dsimp only
      exact mu_same
    · dsimp only
      rw [mu_row (by decide)]; exact e91
  · rw [if_neg (fun q => hl (by have := q112.mp q; omega)), show (c8 112) * cn c = cn (112 * c) from cn_mul (a := 112) (by omega) (by omega) (by omega), cn_add (by omega), if_neg (cn_ix (by omega) (by omega)), if_neg (cn_ix (by omega) (by omega)), cn_nat (by omega), cn_nat (by omega), cnu (by omega)]
    exact pk_some (show ∃ _, _ from ⟨n + 1, by omega, rfl, fun j hj => (mu_row hj).trans (r j hj), ovr_up e91 (by rw [r 89 (by decide)])⟩)
/-- five moments move down by one place -/
def shd (f : Nat → Int32) (n k : Nat) : Int32 := if k < n then f (k + 112) else f k
theorem E_keeps {s : mG} {c : Nat} (hc : c ≤ 6) (h : s.1 88 3 = cn c) : pk (F_X12_keeps s) (fun u => (∀ j, j ≠ 88 → j ≠ 91 → u.1 j = s.1 j) ∧ (∀ k, k ≠ 3 → u.1 88 k = s.1 88 k) ∧ u.1 88 3 = cn (if c < 6 then c + 1 else 6) ∧ u.1 91 = if c < 6 then ovr (112 * c) 112 (s.1 89) (s.1 91) else ovr 560 112 (s.1 89) (shd (s.1 91) 560)) := by
  unfold F_X12_keeps
  by_cases h6 : c = 6
  · subst h6
    rw [if_pos (h.trans (by decide)), if_neg (by omega), if_neg (by omega)]
    unfold F_X12_keeps_L11
    refine pk_whl (fun v => ∃ n, n ≤ 560 ∧ v.1 = cn n ∧ (∀ j, j ≠ 91 → v.2.1 j = s.1 j) ∧ v.2.1 91 = shd (s.1 91) n) ⟨0, by omega, rfl, fun j hj => rfl, by funext k; unfold shd; rw [if_neg (by omega)]⟩ (fun v hv => ?_)
    obtain ⟨x1, u⟩ := v
    obtain ⟨n, hn, e1, r, e91⟩ := hv
    have e1 : x1 = cn n := e1
    have r : ∀ j, j ≠ 91 → u.1 j = s.1 j := r
    have e91 : u.1 91 = shd (s.1 91) n := e91
    subst e1
    have e3 : u.1 88 3 = cn 6 := by rw [r 88 (by decide)]; exact h
    have q560 : (c16 560 ≤ cn n) ↔ 560 ≤ n := cn_le (a := 560) (by omega) (by omega)
    unfold F_X12_keeps_B11
    dsimp only
    rw [e3]
    by_cases hl : n = 560
    · subst hl
      rw [if_pos (q560.mpr (by omega)), show cn 6 - ci 1 = cn 5 by decide]
      refine pk_b1r (fun u2 hu2 => ?_)
      obtain ⟨k1, k2, k3, k4⟩ := E_keeps49 (s := (mu u.1 88 3 (cn 5), u.2)) (c := 5) (by omega) mu_sameP u2 hu2
      refine ⟨fun j h1 h2 => ?_, fun k hk => ?_, k3, ?_⟩
      · rw [k1 j h1 h2]
        dsimp only
        rw [mu_row h1]; exact r j h2
      · rw [k2 k hk]
        dsimp only
        rw [mu_cell (Or.inr hk), r 88 (by decide)]
      · rw [k4]
        dsimp only
        rw [mu_row (by decide), mu_row (by decide), e91, r 89 (by decide)]
    · rw [if_neg (fun q => hl (by have := q560.mp q; omega)), show cn n + c8 112 = cn (n + 112) from cn_add (b := 112) (by omega), if_neg (cn_ix (by omega) (by omega)), if_neg (cn_ix (by omega) (by omega)), cn_nat (by omega), cn_nat (by omega), cnu (by omega)]
      refine pk_some (show ∃ _, _ from ⟨n + 1, by omega, rfl, fun j hj => (mu_row hj).trans (r j hj), ?_⟩)
      funext k
      dsimp only
      rw [mu_ap, e91]
      unfold shd
      by_cases e : k = n
      · subst e
        rw [if_pos ⟨rfl, rfl⟩, if_neg (by omega), if_pos (by omega)]
      · rw [if_neg (fun q => e q.2)]
        by_cases q : k < n
        · rw [if_pos q, if_pos (by omega)]
        · rw [if_neg q, if_neg (by omega)]
  · have n6 : ¬ s.1 88 3 = c8 6 := fun q => h6 ((cn_inj (by omega) (by decide)).mp ((h.symm.trans q).trans (show c8 6 = cn 6 by decide)))
    rw [if_neg n6, if_pos (by omega), if_pos (by omega)]
    exact E_keeps49 (by omega) h
theorem E_undo {s : mG} {c : Nat} (hc : c ≤ 6) (h : s.1 88 3 = cn c) : pk (F_X12_undo s) (fun τ => (c = 0 ∧ τ = (ci 0, s)) ∨ (0 < c ∧ τ.1 = ci 1 ∧ (∀ j, j ≠ 88 → j ≠ 89 → τ.2.1 j = s.1 j) ∧ (∀ k, k ≠ 3 → τ.2.1 88 k = s.1 88 k) ∧ τ.2.1 88 3 = cn (c - 1) ∧ τ.2.1 89 = ovr 0 112 (fun k => s.1 91 (112 * (c - 1) + k)) (s.1 89))) := by
  unfold F_X12_undo
  by_cases h0 : c = 0
  · subst h0
    rw [if_pos (h.trans (by decide))]
    exact pk_some (Or.inl ⟨rfl, rfl⟩)
  · have n0 : ¬ s.1 88 3 = 0 := fun q => h0 ((cn_inj (by omega) (by omega)).mp ((h.symm.trans q).trans (show (0 : Int32) = cn 0 by decide)))
    rw [if_neg n0, h, show cn c - ci 1 = cn (c - 1) from cn_sub (a := c) (b := 1) (by omega) (by omega)]
    dsimp only
    unfold F_X12_undo_L21
    refine pk_whl (fun v => ∃ n, n ≤ 112 ∧ v.1 = cn n ∧ (∀ j, j ≠ 88 → j ≠ 89 → v.2.1 j = s.1 j) ∧ (∀ k, k ≠ 3 → v.2.1 88 k = s.1 88 k) ∧ v.2.1 88 3 = cn (c - 1) ∧ v.2.1 89 = ovr 0 n (fun k => s.1 91 (112 * (c - 1) + k)) (s.1 89)) ⟨0, by omega, rfl, fun j h1 _ => mu_row h1, fun k hk => (mu_cell (Or.inr hk) : mu s.1 88 3 (cn (c - 1)) 88 k = s.1 88 k), (mu_same : mu s.1 88 3 (cn (c - 1)) 88 3 = cn (c - 1)), (mu_row (by decide) : mu s.1 88 3 (cn (c - 1)) 89 = s.1 89).trans ovr_0.symm⟩ (fun v hv => ?_)
    obtain ⟨x1, u⟩ := v
    obtain ⟨n, hn, e1, r, r8, e3, e89⟩ := hv
    have e1 : x1 = cn n := e1
    have r : ∀ j, j ≠ 88 → j ≠ 89 → u.1 j = s.1 j := r
    have r8 : ∀ k, k ≠ 3 → u.1 88 k = s.1 88 k := r8
    have e3 : u.1 88 3 = cn (c - 1) := e3
    have e89 : u.1 89 = ovr 0 n (fun k => s.1 91 (112 * (c - 1) + k)) (s.1 89) := e89
    subst e1
    have q112 : (c8 112 ≤ cn n) ↔ 112 ≤ n := cn_le (a := 112) (by omega) (by omega)
    unfold F_X12_undo_B21
    dsimp only
    rw [e3]
    by_cases hl : n = 112
    · subst hl
      rw [if_pos (q112.mpr (by omega))]
      exact pk_some (show _ ∨ _ from Or.inr ⟨by omega, rfl, r, r8, e3, e89⟩)
    · rw [if_neg (fun q => hl (by have := q112.mp q; omega)), show (c8 112) * cn (c - 1) = cn (112 * (c - 1)) from cn_mul (a := 112) (by omega) (by omega) (by omega), cn_add (by omega), if_neg (cn_ix (by omega) (by omega)), if_neg (cn_ix (by omega) (by omega)), cn_nat (by omega), cn_nat (by omega), cnu (by omega)]
      have d8 : mu u.1 89 n (u.1 91 (112 * (c - 1) + n)) 88 = u.1 88 := mu_row (by decide)
      refine pk_some (show ∃ _, _ from ⟨n + 1, by omega, rfl, fun j h1 h2 => (mu_row h2).trans (r j h1 h2), fun k hk => (congrFun d8 k).trans (r8 k hk), (congrFun d8 3).trans e3, ?_⟩)
      have q := ovr_up (p := 0) (n := n) e89 (v := u.1 91 (112 * (c - 1) + n)) (by rw [r 91 (by decide) (by decide)])
      rw [Nat.zero_add] at q
      exact q
end
