noncomputable section
/-! WHAT putsSigns AND putsShifts WRITE, cell by cell -/
/-- n cells from place p on are those of f -/
def ovr (p n : Nat) (f g : Nat → Int32) (k : Nat) : Int32 := if p ≤ k ∧ k < p + n then f (k - p) else g k
theorem ovr_0 {p : Nat} {f g : Nat → Int32} : ovr p 0 f g = g := by
  funext k
  unfold ovr
  rw [if_neg (by omega)]
theorem ovr_up {p n : Nat} {f g : Nat → Int32} {D : Nat → Nat → Int32} {i : Nat} (h : D i = ovr p n f g) {v : Int32} (hv : v = f n) : mu D i (p + n) v i = ovr p (n + 1) f g := by
  funext k
  rw [mu_ap]
  by_cases e : k = p + n
  · rw [if_pos ⟨rfl, e⟩]
    unfold ovr
    rw [if_pos (by omega), hv, e, show p + n - p = n by omega]
  · rw [if_neg (fun q => e q.2), h]
    unfold ovr
    by_cases q : p ≤ k ∧ k < p + n
    · rw [if_pos q, if_pos (by omega)]
    · rw [if_neg q, if_neg (by omega)]
theorem E_putsSigns {s : mG} {R : Nat} (hR : R ≤ 6) (h : s.1 88 14 = cn R) : pk (F_X12_putsSigns s) (fun τ => τ.1 = cn R ∧ (∀ j, j ≠ 88 → j ≠ 89 → τ.2.1 j = s.1 j) ∧ (∀ c, c ≠ 3 → τ.2.1 88 c = s.1 88 c) ∧ τ.2.1 88 3 = ci 0 ∧ τ.2.1 89 = ovr 39 72 (fun _ => ci (-1)) (ovr 143 (2 * R) (s.1 94) (mu s.1 89 115 (cn R) 89))) := by
  unfold F_X12_putsSigns F_X12_putsSigns_L13
  rw [h]
  dsimp only
  have e2 : (ci 2) * cn R = cn (2 * R) := cn_mul (a := 2) (by omega) (by omega) (by omega)
  refine pk_whl (fun v => ∃ n, n ≤ 2 * R ∧ v.1 = cn n ∧ (∀ j, j ≠ 89 → v.2.1 j = s.1 j) ∧ v.2.1 89 = ovr 143 n (s.1 94) (mu s.1 89 115 (cn R) 89)) ⟨0, by omega, rfl, fun j hj => mu_row hj, ovr_0.symm⟩ (fun v hv => ?_)
  obtain ⟨x1, u⟩ := v
  obtain ⟨n, hn, e1, r, e89⟩ := hv
  have e1 : x1 = cn n := e1
  have r : ∀ j, j ≠ 89 → u.1 j = s.1 j := r
  have e89 : u.1 89 = ovr 143 n (s.1 94) (mu s.1 89 115 (cn R) 89) := e89
  subst e1
  have e14 : u.1 88 14 = cn R := by rw [r 88 (by decide)]; exact h
  unfold F_X12_putsSigns_B13
  dsimp only
  rw [e14, e2]
  by_cases hl : n = 2 * R
  · subst hl
    rw [if_pos ((cn_le (by omega) (by omega)).mpr (by omega))]
    refine pk_b1r ?_
    unfold F_X12_putsSigns_L47
    refine pk_whl (fun v => ∃ m, m ≤ 72 ∧ v.1 = cn m ∧ (∀ j, j ≠ 89 → v.2.1 j = s.1 j) ∧ v.2.1 89 = ovr 39 m (fun _ => ci (-1)) (ovr 143 (2 * R) (s.1 94) (mu s.1 89 115 (cn R) 89))) ⟨0, by omega, rfl, r, e89.trans ovr_0.symm⟩ (fun v hv => ?_)
    obtain ⟨x1, w⟩ := v
    obtain ⟨m, hm, g1, r2, g89⟩ := hv
    have g1 : x1 = cn m := g1
    have r2 : ∀ j, j ≠ 89 → w.1 j = s.1 j := r2
    have g89 : w.1 89 = ovr 39 m (fun _ => ci (-1)) (ovr 143 (2 * R) (s.1 94) (mu s.1 89 115 (cn R) 89)) := g89
    subst g1
    have q72 : (c8 72 ≤ cn m) ↔ 72 ≤ m := cn_le (a := 72) (by omega) (by omega)
    unfold F_X12_putsSigns_B47
    dsimp only
    rw [V_forgets, b1_some]
    by_cases h72 : m = 72
    · subst h72
      rw [if_pos (q72.mpr (by omega))]
      refine pk_some (show _ ∧ _ from ⟨?_, fun j h1 h2 => ?_, fun c hc => ?_, ?_, ?_⟩)
      · dsimp only
        rw [mu_cell (by decide), r2 88 (by decide)]; exact h
      · dsimp only
        rw [mu_row h1]; exact r2 j h2
      · dsimp only
        rw [mu_cell (Or.inr hc), r2 88 (by decide)]
      · dsimp only
        exact mu_same
      · dsimp only
        rw [mu_row (by decide)]; exact g89
    · rw [if_neg (fun q => h72 (by have := q72.mp q; omega)), show c8 39 + cn m = cn (39 + m) from cn_add (a := 39) (by omega), if_neg (cn_ix (by omega) (by omega)), cn_nat (by omega), cnu (by omega)]
      exact pk_some (show ∃ _, _ from ⟨m + 1, by omega, rfl, fun j hj => (mu_row hj).trans (r2 j hj), ovr_up g89 rfl⟩)
  · rw [if_neg (fun q => hl (by have := (cn_le (by omega) (by omega)).mp q; omega)), show c16 143 + cn n = cn (143 + n) from cn_add (a := 143) (by omega), if_neg (cn_ix (by omega) (by omega)), if_neg (cn_ix (by omega) (by omega)), cn_nat (by omega), cn_nat (by omega), cnu (by omega)]
    exact pk_some (show ∃ _, _ from ⟨n + 1, by omega, rfl, fun j hj => (mu_row hj).trans (r j hj), ovr_up e89 (by rw [r 94 (by decide)])⟩)
theorem E_putsShifts {s : mG} {R : Nat} (hR : R ≤ 12) (h : s.1 88 14 = cn R) : pk (F_X12_putsShifts s) (fun τ => τ.1 = cn R ∧ (∀ j, j ≠ 88 → j ≠ 89 → τ.2.1 j = s.1 j) ∧ (∀ c, c ≠ 3 → τ.2.1 88 c = s.1 88 c) ∧ τ.2.1 88 3 = ci 0 ∧ τ.2.1 89 = ovr 155 (4 * R) (s.1 94) (mu s.1 89 116 (cn R) 89)) := by
  unfold F_X12_putsShifts F_X12_putsShifts_L13
  rw [h]
  dsimp only
  have e2 : (ci 4) * cn R = cn (4 * R) := cn_mul (a := 4) (by omega) (by omega) (by omega)
  refine pk_whl (fun v => ∃ n, n ≤ 4 * R ∧ v.1 = cn n ∧ (∀ j, j ≠ 89 → v.2.1 j = s.1 j) ∧ v.2.1 89 = ovr 155 n (s.1 94) (mu s.1 89 116 (cn R) 89)) ⟨0, by omega, rfl, fun j hj => mu_row hj, ovr_0.symm⟩ (fun v hv => ?_)
  obtain ⟨x1, u⟩ := v
  obtain ⟨n, hn, e1, r, e89⟩ := hv
  have e1 : x1 = cn n := e1
  have r : ∀ j, j ≠ 89 → u.1 j = s.1 j := r
  have e89 : u.1 89 = ovr 155 n (s.1 94) (mu s.1 89 116 (cn R) 89) := e89
  subst e1
  have e14 : u.1 88 14 = cn R := by rw [r 88 (by decide)]; exact h
  unfold F_X12_putsShifts_B13
  dsimp only
  rw [V_forgets, b1_some, e14, e2]
  by_cases hl : n = 4 * R
  · subst hl
    rw [if_pos ((cn_le (by omega) (by omega)).mpr (by omega))]
    refine pk_some (show _ ∧ _ from ⟨?_, fun j h1 h2 => ?_, fun c hc => ?_, ?_, ?_⟩)
    · dsimp only
      rw [mu_cell (by decide)]; exact e14
    · dsimp only
      rw [mu_row h1]; exact r j h2
    · dsimp only
      rw [mu_cell (Or.inr hc), r 88 (by decide)]
    · dsimp only
      exact mu_same
    · dsimp only
      rw [mu_row (by decide)]; exact e89
  · rw [if_neg (fun q => hl (by have := (cn_le (by omega) (by omega)).mp q; omega)), show c16 155 + cn n = cn (155 + n) from cn_add (a := 155) (by omega), if_neg (cn_ix (by omega) (by omega)), if_neg (cn_ix (by omega) (by omega)), cn_nat (by omega), cn_nat (by omega), cnu (by omega)]
    exact pk_some (show ∃ _, _ from ⟨n + 1, by omega, rfl, fun j hj => (mu_row hj).trans (r j hj), ovr_up e89 (by rw [r 94 (by decide)])⟩)
/-- the law's lines and steps as they are put -/
def PLn (n L : Nat) (s u : mG) : Prop := (∀ j, j ≠ 89 → u.1 j = s.1 j) ∧ u.1 89 117 = cn L ∧ (∀ j, j < n → u.1 89 (985 + j) = s.1 92 (4 * j) ∧ u.1 89 (1001 + j) = s.1 92 (4 * j + 1) ∧ u.1 89 (1017 + j) = s.1 92 (4 * j + 2) ∧ u.1 89 (1033 + j) = s.1 92 (4 * j + 3)) ∧ ∀ k, k ≠ 117 → (k < 985 ∨ 1049 ≤ k) → u.1 89 k = s.1 89 k
theorem E_putsLaw {s : mG} {L nc : Nat} (hL : L ≤ 16) (hn : nc ≤ 400) (h12 : s.1 88 12 = cn L) (h13 : s.1 88 13 = cn nc) : pk (F_X12_putsLaw s) (fun τ => τ.1 = cn L ∧ ∃ u : mG, PLn L L s u ∧ (∀ j, j ≠ 89 → τ.2.1 j = s.1 j) ∧ τ.2.1 89 = ovr 1050 (2 * nc) (s.1 93) (u.1 89)) := by
  unfold F_X12_putsLaw F_X12_putsLaw_L13
  rw [h12]
  dsimp only
  have e2 : (ci 2) * cn nc = cn (2 * nc) := cn_mul (a := 2) (by omega) (by omega) (by omega)
  refine pk_whl (fun v => ∃ n, n ≤ L ∧ v.1 = cn n ∧ PLn n L s v.2) ⟨0, by omega, rfl, fun j hj => mu_row hj, (mu_same : mu s.1 89 117 (cn L) 89 117 = cn L), fun j hj => absurd hj (by omega), fun k h1 _ => (mu_cell (Or.inr h1) : mu s.1 89 117 (cn L) 89 k = s.1 89 k)⟩ (fun v hv => ?_)
  obtain ⟨x1, u⟩ := v
  obtain ⟨n, hnL, e1, hP⟩ := hv
  have e1 : x1 = cn n := e1
  have hP : PLn n L s u := hP
  subst e1
  obtain ⟨r, c117, c, o⟩ := hP
  have k12 : u.1 88 12 = cn L := by rw [r 88 (by decide)]; exact h12
  unfold F_X12_putsLaw_B13
  dsimp only
  rw [k12]
  by_cases hl : n = L
  · subst hl
    rw [if_pos ((cn_le (by omega) (by omega)).mpr (by omega))]
    refine pk_b1r ?_
    unfold F_X12_putsLaw_L107
    refine pk_whl (fun v => ∃ m, m ≤ 2 * nc ∧ v.1 = cn m ∧ (∀ j, j ≠ 89 → v.2.1 j = s.1 j) ∧ v.2.1 89 = ovr 1050 m (s.1 93) (u.1 89)) ⟨0, by omega, rfl, r, ovr_0.symm⟩ (fun v hv => ?_)
    obtain ⟨x1, w⟩ := v
    obtain ⟨m, hm, g1, r2, g89⟩ := hv
    have g1 : x1 = cn m := g1
    have r2 : ∀ j, j ≠ 89 → w.1 j = s.1 j := r2
    have g89 : w.1 89 = ovr 1050 m (s.1 93) (u.1 89) := g89
    subst g1
    have w13 : w.1 88 13 = cn nc := by rw [r2 88 (by decide)]; exact h13
    have w12 : w.1 88 12 = cn n := by rw [r2 88 (by decide)]; exact h12
    unfold F_X12_putsLaw_B107
    dsimp only
    rw [w13, e2]
    by_cases hm2 : m = 2 * nc
    · subst hm2
      rw [if_pos ((cn_le (by omega) (by omega)).mpr (by omega))]
      exact pk_some (show _ ∧ _ from ⟨w12, u, ⟨r, c117, c, o⟩, r2, g89⟩)
    · rw [if_neg (fun q => hm2 (by have := (cn_le (by omega) (by omega)).mp q; omega)), show c16 1050 + cn m = cn (1050 + m) from cn_add (a := 1050) (by omega), if_neg (cn_ix (by omega) (by omega)), if_neg (cn_ix (by omega) (by omega)), cn_nat (by omega), cn_nat (by omega), cnu (by omega)]
      exact pk_some (show ∃ _, _ from ⟨m + 1, by omega, rfl, fun j hj => (mu_row hj).trans (r2 j hj), ovr_up g89 (by rw [r2 93 (by decide)])⟩)
  · have p4 : (ci 4) * cn n = cn (4 * n) := cn_mul (a := 4) (by omega) (by omega) (by omega)
    have p1 : cn (4 * n) + ci 1 = cn (4 * n + 1) := cn_add (b := 1) (by omega)
    have p2 : cn (4 * n) + ci 2 = cn (4 * n + 2) := cn_add (b := 2) (by omega)
    have p3 : cn (4 * n) + ci 3 = cn (4 * n + 3) := cn_add (b := 3) (by omega)
    have w0 : c16 985 + cn n = cn (985 + n) := cn_add (a := 985) (by omega)
    have w1 : c16 1001 + cn n = cn (1001 + n) := cn_add (a := 1001) (by omega)
    have w2 : c16 1017 + cn n = cn (1017 + n) := cn_add (a := 1017) (by omega)
    have w3 : c16 1033 + cn n = cn (1033 + n) := cn_add (a := 1033) (by omega)
    rw [if_neg (fun q => hl (by have := (cn_le (by omega) (by omega)).mp q; omega)), p4, p1, p2, p3, w0, w1, w2, w3, cnu (by omega)]
    rw [cn_nat (n := 4 * n) (by omega), cn_nat (n := 4 * n + 1) (by omega), cn_nat (n := 4 * n + 2) (by omega), cn_nat (n := 4 * n + 3) (by omega), cn_nat (n := 985 + n) (by omega), cn_nat (n := 1001 + n) (by omega), cn_nat (n := 1017 + n) (by omega), cn_nat (n := 1033 + n) (by omega)]
    have nn : ∀ a b : Nat, a < b → b < 2147483648 → ¬ (cn a < 0 ∨ b ≤ a) := fun a b h1 h2 => fun q => q.elim (cn_nn (by omega)) (by omega)
    rw [if_neg (nn (4 * n) 64 (by omega) (by omega)), if_neg (nn (985 + n) 1894 (by omega) (by omega)), if_neg (nn (4 * n + 1) 64 (by omega) (by omega)), if_neg (nn (1001 + n) 1894 (by omega) (by omega)), if_neg (nn (4 * n + 2) 64 (by omega) (by omega)), if_neg (nn (1017 + n) 1894 (by omega) (by omega)), if_neg (nn (4 * n + 3) 64 (by omega) (by omega)), if_neg (nn (1033 + n) 1894 (by omega) (by omega))]
    refine pk_some (show ∃ _, _ from ⟨n + 1, by omega, rfl, fun j hj => ?_, ?_, fun j hj => ?_, fun k h1 h2 => ?_⟩)
    all_goals dsimp only
    · rw [mu_row hj, mu_row hj, mu_row hj, mu_row hj]; exact r j hj
    · rw [mu_cell (by omega), mu_cell (by omega), mu_cell (by omega), mu_cell (by omega)]; exact c117
    · simp only [mu_row (show (92 : Nat) ≠ 89 by decide)]
      have r92 : u.1 92 = s.1 92 := r 92 (by decide)
      rw [r92]
      by_cases e : j = n
      · subst e
        refine ⟨?_, ?_, ?_, ?_⟩
        · rw [mu_cell (by omega), mu_cell (by omega), mu_cell (by omega)]; exact mu_same
        · rw [mu_cell (by omega), mu_cell (by omega)]; exact mu_same
        · rw [mu_cell (by omega)]; exact mu_same
        · exact mu_same
      · obtain ⟨c0, c1, c2, c3⟩ := c j (by omega)
        refine ⟨?_, ?_, ?_, ?_⟩
        · rw [mu_cell (by omega), mu_cell (by omega), mu_cell (by omega), mu_cell (by omega)]; exact c0
        · rw [mu_cell (by omega), mu_cell (by omega), mu_cell (by omega), mu_cell (by omega)]; exact c1
        · rw [mu_cell (by omega), mu_cell (by omega), mu_cell (by omega), mu_cell (by omega)]; exact c2
        · rw [mu_cell (by omega), mu_cell (by omega), mu_cell (by omega), mu_cell (by omega)]; exact c3
    · rw [mu_cell (by omega), mu_cell (by omega), mu_cell (by omega), mu_cell (by omega)]; exact o k h1 h2
end
