/-! 52.tot -/
section
/-! WHAT EVERY PRINTED FUNCTION NEEDS TO COME TO AN ANSWER -/
theorem whl_tot {σ ρ : Type} {body : σ → Option (σ ⊕ ρ)} (P : σ → Prop) (Q : ρ → Prop) (f : σ → Nat) (hb : ∀ v, P v → (∃ v', body v = some (.inl v') ∧ P v' ∧ f v' < f v) ∨ ∃ a, body v = some (.inr a) ∧ Q a) : ∀ v, P v → ∃ a, whl body v = some a ∧ Q a := by
  have key : ∀ (n : Nat) (v : σ), f v = n → P v → ∃ a, whl body v = some a ∧ Q a := by
    intro n
    induction n using Nat.strongRecOn with
    | _ n ih =>
      intro v hn hv
      rw [whl_eq]
      rcases hb v hv with ⟨v', h1, h2, h3⟩ | ⟨a, h1, h2⟩
      · rw [h1]; exact ih (f v') (hn ▸ h3) v' rfl h2
      · rw [h1]; exact ⟨a, rfl, h2⟩
  intro v hv
  exact key (f v) v rfl hv
theorem idx_ok {n : Nat} {x : Int32} (hn : n < 2147483648) (h0 : ¬ x < 0) (h1 : ¬ cn n ≤ x) : ¬ (x < 0 ∨ n ≤ x.toNatClampNeg) := by
  have e : (cn n).toInt = n := Int32.toInt_ofNat_of_lt hn
  rw [Int32.le_iff_toInt_le, e] at h1
  rintro (h | h)
  · exact h0 h
  · have h2 : x.toNatClampNeg = x.toInt.toNat := rfl
    have h3 : (0 : Int32).toInt = 0 := by decide
    rw [Int32.lt_iff_toInt_lt, h3] at h0
    omega
theorem m_alen_lt (t : Nat) : m_alen t < 2147483648 := by
  have h : ∀ k, k < SH.length → m_alen k < 2147483648 := by decide +kernel
  by_cases ht : t < SH.length
  · exact h t ht
  · unfold m_alen
    rw [List.getElem?_eq_none (Nat.le_of_not_lt ht)]
    decide
/-- a table's cell can always be read .. -/
theorem X10_at_tot (t : Nat) (s : mG) (a b : Int32) : ∃ v, F_X10_at t s a b = some v := by
  have h67 : F_X10_at_67 t s = some (ci 0) := rfl
  have h38 : ∀ x y, ∃ v, F_X10_at_38 t s x y = some v := by
    intro x y
    unfold F_X10_at_38
    rw [h67]
    by_cases h1 : y = 0
    · rw [if_pos h1]; exact ⟨_, rfl⟩
    · rw [if_neg h1]
      by_cases h2 : x < 0
      · rw [if_pos h2]; exact ⟨_, rfl⟩
      · rw [if_neg h2]
        by_cases h3 : cn (m_alen (t + 1)) ≤ x
        · rw [if_pos h3]; exact ⟨_, rfl⟩
        · rw [if_neg h3, if_neg (idx_ok (m_alen_lt _) h2 h3)]; exact ⟨_, rfl⟩
  have h37 : ∀ x, ∃ v, F_X10_at_37 t s x = some v := fun x => h38 x _
  unfold F_X10_at
  dsimp only
  repeat' split
  all_goals first
    | exact h37 _
    | exact h38 _ _
/-- .. and written; only its row's numbers change -/
theorem X10_put_tot (t : Nat) (s : mG) (a b c : Int32) : ∃ s', F_X10_put t a b c s = some s' ∧ s'.2 = s.2 ∧ ∀ i, i ≠ t + 1 → s'.1 i = s.1 i := by
  have h39 : ∀ x y z, ∃ s', F_X10_put_39 t x y z s = some s' ∧ s'.2 = s.2 ∧ ∀ i, i ≠ t + 1 → s'.1 i = s.1 i := by
    intro x y z
    unfold F_X10_put_39
    by_cases h1 : z = 0
    · rw [if_pos h1]; exact ⟨s, rfl, rfl, fun _ _ => rfl⟩
    · rw [if_neg h1]
      by_cases h2 : y < 0
      · rw [if_pos h2]; exact ⟨s, rfl, rfl, fun _ _ => rfl⟩
      · rw [if_neg h2]
        by_cases h3 : cn (m_alen (t + 1)) ≤ y
        · rw [if_pos h3]; exact ⟨s, rfl, rfl, fun _ _ => rfl⟩
        · rw [if_neg h3, if_neg (idx_ok (m_alen_lt _) h2 h3)]
          exact ⟨_, rfl, rfl, fun i hi => by simp [mu, hi]⟩
  have h38 : ∀ x y, ∃ s', F_X10_put_38 t x y s = some s' ∧ s'.2 = s.2 ∧ ∀ i, i ≠ t + 1 → s'.1 i = s.1 i := fun x y => h39 x y _
  unfold F_X10_put
  dsimp only
  repeat' split
  all_goals first
    | exact h38 _ _
    | exact h39 _ _ _
/-- a row's cell can always be read -/
theorem X11_cell_tot {j n : Nat} {q : List (Option Nat)} (hj : SH[j]? = some (.inl (0, n, q))) (s : mG) (i : Int32) : ∃ v, F_X11_cell j s i = some v := by
  have h1 : mal j = some n := by unfold mal; rw [hj]; rfl
  have hn : n < 2147483648 := by
    have h := m_alen_lt j
    unfold m_alen at h
    rw [hj] at h
    exact h
  unfold F_X11_cell F_X11_cell_20
  rw [h1]
  simp only [b1_some]
  by_cases h2 : i < 0
  · rw [if_pos h2]; exact ⟨_, rfl⟩
  · rw [if_neg h2]
    by_cases h3 : cn n ≤ i
    · rw [if_pos h3]; exact ⟨_, rfl⟩
    · have h4 : mia s j i = some (s.1 j i.toNatClampNeg) := by
        unfold mia
        rw [hj]
        simp only [if_neg (idx_ok hn h2 h3)]
      rw [if_neg h3, h4]
      exact ⟨_, rfl⟩
/-- .. and written -/
theorem X11_put_tot {j n : Nat} {q : List (Option Nat)} (hj : SH[j]? = some (.inl (0, n, q))) (s : mG) (i x : Int32) : ∃ s', F_X11_put j i x s = some s' ∧ s'.2 = s.2 ∧ ∀ k, k ≠ j → s'.1 k = s.1 k := by
  have h1 : mal j = some n := by unfold mal; rw [hj]; rfl
  have hn : n < 2147483648 := by
    have h := m_alen_lt j
    unfold m_alen at h
    rw [hj] at h
    exact h
  unfold F_X11_put
  rw [h1]
  simp only [b1_some]
  by_cases h2 : i < 0
  · rw [if_pos h2]; exact ⟨s, rfl, rfl, fun _ _ => rfl⟩
  · rw [if_neg h2]
    by_cases h3 : cn n ≤ i
    · rw [if_pos h3]; exact ⟨s, rfl, rfl, fun _ _ => rfl⟩
    · rw [if_neg h3, hj]
      simp only [bs]
      rw [if_neg (idx_ok hn h2 h3)]
      exact ⟨_, rfl, rfl, fun k hk => by simp [mu, hk]⟩
end
/-! 53.ok -/
section
/-! AN ANSWER COMES, AND WHAT HOLDS OF IT -/
def ok {α : Type} (o : Option α) (Q : α → Prop) : Prop := ∃ a, o = some a ∧ Q a
def PT {α : Type} : α → Prop := fun _ => True
def PB (v : Int32) : Prop := v = 0 ∨ v = 1
theorem pb0 : PB (ci 0) := Or.inl (by decide)
theorem pb1 : PB (ci 1) := Or.inr (by decide)
theorem ok_some {α : Type} {a : α} {Q : α → Prop} (h : Q a) : ok (some a) Q := ⟨a, rfl, h⟩
theorem ok_mono {α : Type} {o : Option α} {P Q : α → Prop} (h : ok o P) (k : ∀ a, P a → Q a) : ok o Q := by
  obtain ⟨a, h1, h2⟩ := h
  exact ⟨a, h1, k a h2⟩
theorem ok_ite {c : Prop} [Decidable c] {α : Type} {x y : Option α} {Q : α → Prop} (h1 : c → ok x Q) (h2 : ¬ c → ok y Q) : ok (if c then x else y) Q := by
  by_cases h : c
  · rw [if_pos h]; exact h1 h
  · rw [if_neg h]; exact h2 h
theorem ok_nn {c : Prop} [Decidable c] {α : Type} {y : Option α} {Q : α → Prop} (h : ¬ c) (k : ok y Q) : ok (if c then none else y) Q := by
  rw [if_neg h]; exact k
theorem ok_pp {c : Prop} [Decidable c] {α : Type} {y : Option α} {Q : α → Prop} (h : c) (k : ok y Q) : ok (if c then y else none) Q := by
  rw [if_pos h]; exact k
theorem ok_b1 {α γ : Type} {o : Option α} {f : α → Option γ} {P : α → Prop} {Q : γ → Prop} (h : ok o P) (k : ∀ a, P a → ok (f a) Q) : ok (b1 o f) Q := by
  obtain ⟨a, h1, h2⟩ := h
  rw [h1]; exact k a h2
theorem ok_b2 {α β γ : Type} {o : Option (α × β)} {f : α → β → Option γ} {P : α × β → Prop} {Q : γ → Prop} (h : ok o P) (k : ∀ a b, P (a, b) → ok (f a b) Q) : ok (b2 o f) Q := by
  obtain ⟨a, h1, h2⟩ := h
  rw [h1]; exact k a.1 a.2 h2
theorem ok_bo {α γ : Type} {o : Option (Option α)} {f0 : Option γ} {f1 : α → Option γ} {P : Option α → Prop} {Q : γ → Prop} (h : ok o P) (k0 : P none → ok f0 Q) (k1 : ∀ a, P (some a) → ok (f1 a) Q) : ok (bo o f0 f1) Q := by
  obtain ⟨a, h1, h2⟩ := h
  rw [h1]
  cases a with
  | none => exact k0 h2
  | some a => exact k1 a h2
def lpost {σ ρ : Type} (P : σ → Prop) (μ : σ → Nat) (n : Nat) (Q : ρ → Prop) : σ ⊕ ρ → Prop
  | .inl v => P v ∧ μ v < n
  | .inr a => Q a
theorem lp_inl {σ ρ : Type} {P : σ → Prop} {μ : σ → Nat} {n : Nat} {Q : ρ → Prop} {v : σ} (h : P v) (h2 : μ v < n) : lpost P μ n Q (.inl v) := ⟨h, h2⟩
theorem lp_inr {σ ρ : Type} {P : σ → Prop} {μ : σ → Nat} {n : Nat} {Q : ρ → Prop} {a : ρ} (h : Q a) : lpost P μ n Q (.inr a) := h
theorem ok_b1r {σ ρ : Type} {o : Option ρ} {P : σ → Prop} {μ : σ → Nat} {n : Nat} {Q : ρ → Prop} (h : ok o Q) : ok (b1 o fun τ => some (Sum.inr τ)) (lpost P μ n Q) := ok_b1 h fun _ hq => ok_some (lp_inr hq)
theorem ok_b1rr {σ ρ σ' : Type} {o : Option ρ} {P : σ → Prop} {μ : σ → Nat} {n : Nat} {P' : σ' → Prop} {μ' : σ' → Nat} {n' : Nat} {Q : ρ → Prop} (h : ok o Q) : ok (b1 o fun τ => some (Sum.inr (Sum.inr τ))) (lpost P μ n (lpost P' μ' n' Q)) := ok_b1 h fun _ hq => ok_some (lp_inr (lp_inr hq))
theorem ok_whl {σ ρ : Type} {body : σ → Option (σ ⊕ ρ)} (P : σ → Prop) (μ : σ → Nat) {Q : ρ → Prop} {v : σ} (hv : P v) (hb : ∀ v, P v → ok (body v) (lpost P μ (μ v) Q)) : ok (whl body v) Q := by
  refine whl_tot P Q μ (fun v hv => ?_) v hv
  obtain ⟨a, h1, h2⟩ := hb v hv
  cases a with
  | inl v' => exact Or.inl ⟨v', h1, h2⟩
  | inr a => exact Or.inr ⟨a, h1, h2⟩
/-! numbers -/
theorem t_add {x y : Int32} (h1 : -2147483648 ≤ x.toInt + y.toInt) (h2 : x.toInt + y.toInt < 2147483648) : (x + y).toInt = x.toInt + y.toInt := by
  rw [Int32.toInt_add]
  exact Int.bmod_eq_of_le (by omega) (by omega)
theorem t_sub {x y : Int32} (h1 : -2147483648 ≤ x.toInt - y.toInt) (h2 : x.toInt - y.toInt < 2147483648) : (x - y).toInt = x.toInt - y.toInt := by
  rw [Int32.toInt_sub]
  exact Int.bmod_eq_of_le (by omega) (by omega)
theorem t_mul {x y : Int32} (h1 : -2147483648 ≤ x.toInt * y.toInt) (h2 : x.toInt * y.toInt < 2147483648) : (x * y).toInt = x.toInt * y.toInt := by
  rw [Int32.toInt_mul]
  exact Int.bmod_eq_of_le (by omega) (by omega)
theorem t_ci {n : Int} (h1 : -2147483648 ≤ n) (h2 : n < 2147483648) : (ci n).toInt = n := Int32.toInt_ofInt_of_le (by omega) (by omega)
theorem t_cn {n : Nat} (h : n < 2147483648) : (cn n).toInt = n := Int32.toInt_ofNat_of_lt h
theorem t_lt {x : Int32} : x.toInt < 2147483648 := by have h := Int32.toInt_lt x; omega
theorem t_ge {x : Int32} : -2147483648 ≤ x.toInt := by have h := Int32.le_toInt x; omega
theorem t_zero : (0 : Int32).toInt = 0 := by decide
theorem t_one : (1 : Int32).toInt = 1 := by decide
theorem t_neg_iff {x : Int32} : x < 0 ↔ x.toInt < 0 := by rw [Int32.lt_iff_toInt_lt, t_zero]
theorem t_nn {x : Int32} (h : ¬ x < 0) : 0 ≤ x.toInt := by rw [t_neg_iff] at h; omega
theorem t_of_nn {x : Int32} (h : 0 ≤ x.toInt) : ¬ x < 0 := by rw [t_neg_iff]; omega
theorem t_nat (x : Int32) : x.toNatClampNeg = x.toInt.toNat := rfl
def mUp (x : Int32) : Nat := (2147483647 - x.toInt).toNat
def mDn (x : Int32) : Nat := (x.toInt + 8).toNat
theorem t_c1 : (ci 1).toInt = 1 := by decide
theorem t_cm1 : (ci (-1)).toInt = -1 := by decide
theorem t_cm8 : (ci (-8)).toInt = -8 := by decide
theorem t_up {x : Int32} (h : x.toInt < 2147483647) : (x + ci 1).toInt = x.toInt + 1 := by
  have h2 := @t_ge x
  rw [t_add (by rw [t_c1]; omega) (by rw [t_c1]; omega), t_c1]
theorem t_dn {x : Int32} (h : -2147483648 < x.toInt) : (x + ci (-1)).toInt = x.toInt - 1 := by
  have h2 := @t_lt x
  rw [t_add (by rw [t_cm1]; omega) (by rw [t_cm1]; omega), t_cm1]
  omega
theorem up_t {x : Int32} (h : x.toInt < 2147483647) : mUp (x + ci 1) < mUp x := by
  unfold mUp; rw [t_up h]; omega
theorem lt_t {x e : Int32} (h : x < e) : x.toInt < 2147483647 := by
  rw [Int32.lt_iff_toInt_lt] at h
  have h2 := @t_lt e
  omega
theorem ge_t {x e : Int32} (h : ¬ e ≤ x) : x.toInt < 2147483647 := by
  rw [Int32.le_iff_toInt_le] at h
  have h2 := @t_lt e
  omega
theorem le_t {x e : Int32} (h : ¬ e < x) (hb : e.toInt < 2147483647) : x.toInt < 2147483647 := by
  rw [Int32.lt_iff_toInt_lt] at h
  omega
theorem up_nn {x : Int32} (h0 : ¬ x < 0) (h : x.toInt < 2147483647) : ¬ (x + ci 1) < 0 := by
  have h1 := t_nn h0
  exact t_of_nn (by rw [t_up h]; omega)
theorem dn_t {x : Int32} (h : ¬ x < 0) : mDn (x + ci (-1)) < mDn x := by
  have h1 := t_nn h
  unfold mDn; rw [t_dn (by omega)]; omega
theorem dn8_t {x : Int32} (h : ¬ x < 0) : mDn (x + ci (-8)) < mDn x := by
  have h1 := t_nn h
  have h2 := @t_lt x
  unfold mDn
  rw [t_add (by rw [t_cm8]; omega) (by rw [t_cm8]; omega), t_cm8]; omega
theorem lgc_ne {x : Int64} (h : ¬ lg_cmp x (cz 0) = 0) : ¬ x = 0 := by
  intro q
  subst q
  exact h (by decide)
theorem nn0 : ¬ ci 0 < 0 := t_of_nn (by decide)
theorem nn1 : ¬ ci 1 < 0 := t_of_nn (by decide)
theorem le_z12 : ci 0 ≤ ci 12 := Int32.le_iff_toInt_le.mpr (by decide)
/-! the class: what its calls keep -/
def IC (s : mG) : Prop := s.1 2 0 = ci 12 ∧ s.1 2 3 ≤ ci 12
def RC (b : Bool) (s s' : mG) : Prop := IC s' ∧ (∀ j, 88 ≤ j → s'.1 j = s.1 j) ∧ (∀ j, 88 ≤ j → s'.2 j = s.2 j) ∧ (b = true → s'.1 55 9 = s.1 55 9)
theorem RC_refl {b : Bool} {s : mG} (h : IC s) : RC b s s := ⟨h, fun _ _ => rfl, fun _ _ => rfl, fun _ => rfl⟩
theorem RC_tr {b : Bool} {s0 s s' : mG} (h : RC b s0 s) (k : RC true s s') : RC b s0 s' :=
  ⟨k.1, fun j hj => (k.2.1 j hj).trans (h.2.1 j hj), fun j hj => (k.2.2.1 j hj).trans (h.2.2.1 j hj), fun q => (k.2.2.2 rfl).trans (h.2.2.2 q)⟩
theorem RC_trf {s0 s s' : mG} (h : RC false s0 s) (k : RC false s s') : RC false s0 s' :=
  ⟨k.1, fun j hj => (k.2.1 j hj).trans (h.2.1 j hj), fun j hj => (k.2.2.1 j hj).trans (h.2.2.1 j hj), fun q => absurd q (by decide)⟩
theorem RC_weak {b : Bool} {s0 s : mG} (h : RC b s0 s) : RC false s0 s := ⟨h.1, h.2.1, h.2.2.1, fun q => absurd q (by decide)⟩
theorem ok_tr {b : Bool} {s0 s : mG} {o : Option mG} (h : RC b s0 s) (k : ok o (RC true s)) : ok o (RC b s0) := ok_mono k fun _ q => RC_tr h q
theorem ok_tr2 {α : Type} {b : Bool} {s0 s : mG} {o : Option (α × mG)} (h : RC b s0 s) (k : ok o (fun τ => RC true s τ.2)) : ok o (fun τ => RC b s0 τ.2) := ok_mono k fun _ q => RC_tr h q
theorem ok_tr3 {b : Bool} {s0 s : mG} {o : Option (Int32 × mG)} (h : RC b s0 s) (k : ok o (fun τ => PB τ.1 ∧ RC true s τ.2)) : ok o (fun τ => PB τ.1 ∧ RC b s0 τ.2) := ok_mono k fun _ q => ⟨q.1, RC_tr h q.2⟩
theorem RC_new {b : Bool} {s0 s s' : mG} (h : RC b s0 s) (h1 : ∀ j, 88 ≤ j → s'.1 j = s.1 j) (h2 : ∀ j, 88 ≤ j → s'.2 j = s.2 j) (h3 : s'.1 2 0 = s.1 2 0) (h4 : s'.1 2 3 ≤ ci 12) (h5 : b = true → s'.1 55 9 = s.1 55 9) : RC b s0 s' :=
  ⟨⟨h3.trans h.1.1, h4⟩, fun j hj => (h1 j hj).trans (h.2.1 j hj), fun j hj => (h2 j hj).trans (h.2.2.1 j hj), fun q => (h5 q).trans (h.2.2.2 q)⟩
theorem mu_row {D : Nat → Nat → Int32} {i j k : Nat} {v : Int32} (h : j ≠ i) : mu D i k v j = D j := by unfold mu; rw [if_neg h]
theorem muL_row {D : Nat → Nat → Int64} {i j k : Nat} {v : Int64} (h : j ≠ i) : muL D i k v j = D j := by unfold muL; rw [if_neg h]
theorem mu_same {D : Nat → Nat → Int32} {i k : Nat} {v : Int32} : mu D i k v i k = v := by unfold mu; rw [if_pos rfl, if_pos rfl]
theorem mu_sameP {s : mG} {i k : Nat} {v : Int32} : ((mu s.1 i k v, s.2) : mG).1 i k = v := by
  show mu s.1 i k v i k = v
  exact mu_same
theorem mu_cell {D : Nat → Nat → Int32} {i j k l : Nat} {v : Int32} (h : j ≠ i ∨ l ≠ k) : mu D i k v j l = D j l := by
  unfold mu
  by_cases q : j = i
  · subst q
    rw [if_pos rfl, if_neg (h.resolve_left fun p => p rfl)]
  · rw [if_neg q]
theorem RC_cell {b : Bool} {s0 s : mG} {i k : Nat} {v : Int32} (h : RC b s0 s) (h1 : i < 88) (h2 : i ≠ 2 ∨ (k ≠ 0 ∧ k ≠ 3)) (h3 : b = true → (i ≠ 55 ∨ k ≠ 9)) : RC b s0 (mu s.1 i k v, s.2) := by
  refine RC_new h (fun j hj => mu_row (by omega)) (fun _ _ => rfl) (mu_cell (by omega)) ?_ (fun q => mu_cell (by have := h3 q; omega))
  rw [show (mu s.1 i k v, s.2).1 2 3 = s.1 2 3 from mu_cell (by omega)]
  exact h.1.2
theorem RC_mu {b : Bool} {s0 s : mG} {i k : Nat} {v : Int32} (h : RC b s0 s) (hd : i < 88 ∧ (i ≠ 2 ∨ (k ≠ 0 ∧ k ≠ 3)) ∧ (i ≠ 55 ∨ k ≠ 9)) : RC b s0 (mu s.1 i k v, s.2) := RC_cell h hd.1 hd.2.1 fun _ => hd.2.2
theorem RC_mw {b : Bool} {s0 s : mG} {i k : Nat} {v : Int32} (h : RC b s0 s) (hd : i < 88 ∧ i ≠ 2 ∧ i ≠ 55) : RC b s0 (mu s.1 i k v, s.2) := RC_cell h hd.1 (Or.inl hd.2.1) fun _ => Or.inl hd.2.2
theorem RC_muL {b : Bool} {s0 s : mG} {i k : Nat} {v : Int64} (h : RC b s0 s) (hd : i < 88) : RC b s0 (s.1, muL s.2 i k v) :=
  RC_new h (fun _ _ => rfl) (fun j hj => muL_row (by omega)) rfl h.1.2 (fun _ => rfl)
def m_ob (c t : Nat) : Bool := match SH[t]? with
  | some (.inr (d, _)) => c == d
  | _ => false
theorem m_ob_lt {c t : Nat} (h : m_ob c t = true) : t < 105 := by
  refine Nat.lt_of_not_le fun q => ?_
  unfold m_ob at h
  rw [List.getElem?_eq_none (Nat.le_trans (show SH.length ≤ 105 by decide) q)] at h
  cases h
theorem m_ob10 : ∀ t, t < 105 → m_ob 10 t = true → t < 87 ∧ t ≠ 1 ∧ t ≠ 54 ∧ t ≠ 55 := by decide +kernel
theorem m_ob2 : ∀ t, t < 105 → m_ob 2 t = true → t < 88 ∧ t ≠ 2 ∧ t ≠ 55 := by decide +kernel
theorem m_ob4 : ∀ t, t < 105 → m_ob 4 t = true → t < 88 ∧ t ≠ 2 ∧ t ≠ 55 := by decide +kernel
theorem isT_b {t : Nat} (h : isT t) : t < 87 ∧ t ≠ 1 ∧ t ≠ 54 ∧ t ≠ 55 := by
  have hb : m_ob 10 t = true := by unfold m_ob; rw [h.1]; rfl
  exact m_ob10 t (m_ob_lt hb) hb
theorem isH_b {t : Nat} (h : isH t) : t < 88 ∧ t ≠ 2 ∧ t ≠ 55 := by
  have hb : m_ob 2 t = true := by unfold m_ob; rw [h.1]; rfl
  exact m_ob2 t (m_ob_lt hb) hb
theorem isM_b {t : Nat} (h : isM t) : t < 88 ∧ t ≠ 2 ∧ t ≠ 55 := by
  have hb : m_ob 4 t = true := by unfold m_ob; rw [h.1]; rfl
  exact m_ob4 t (m_ob_lt hb) hb
theorem RC_mt {b : Bool} {s0 s : mG} {t k : Nat} {v : Int32} (h : RC b s0 s) (ht : isT t) : RC b s0 (mu s.1 (t + 1) k v, s.2) := by
  have := isT_b ht
  exact RC_mw h (by omega)
theorem RC_mh {b : Bool} {s0 s : mG} {t k : Nat} {v : Int32} (h : RC b s0 s) (ht : isH t) : RC b s0 (mu s.1 t k v, s.2) := RC_mw h (isH_b ht)
theorem RC_mm {b : Bool} {s0 s : mG} {t k : Nat} {v : Int32} (h : RC b s0 s) (ht : isM t) : RC b s0 (mu s.1 t k v, s.2) := RC_mw h (isM_b ht)
theorem RC_rows {b : Bool} {s0 s : mG} {t : Nat} {v : Int32} (h : RC b s0 s) (ht : isT t) (hv : t = 2 → v ≤ ci 12) : RC b s0 (mu s.1 t 3 v, s.2) := by
  have ht := isT_b ht
  refine RC_new h (fun j hj => mu_row (by omega)) (fun _ _ => rfl) (mu_cell (by omega)) ?_ (fun q => mu_cell (by omega))
  by_cases q : t = 2
  · subst q
    rw [show (mu s.1 2 3 v, s.2).1 2 3 = v from mu_sameP]
    exact hv rfl
  · rw [show (mu s.1 t 3 v, s.2).1 2 3 = s.1 2 3 from mu_cell (by omega)]
    exact h.1.2
theorem ic_lt {s : mG} (h : IC s) : (s.1 2 3).toInt ≤ 12 := by
  have h2 := h.2
  rw [Int32.le_iff_toInt_le, show (ci 12).toInt = 12 by decide] at h2
  exact h2
theorem ic_t {s : mG} (h : IC s) : (s.1 2 3).toInt < 2147483647 := by have := ic_lt h; omega
/-! tables and rows -/
theorem T_X10_at {t : Nat} {s : mG} {a1 a2 : Int32} (h_t : isT t) (hI : IC s) : ok (F_X10_at t s a1 a2) PT := by
  obtain ⟨v, h⟩ := X10_at_tot t s a1 a2
  exact ⟨v, h, trivial⟩
theorem T_X10_put {t : Nat} {s : mG} {a1 a2 a3 : Int32} (h_t : isT t) (hI : IC s) : ok (F_X10_put t a1 a2 a3 s) (RC true s) := by
  obtain ⟨s', h, h2, h3⟩ := X10_put_tot t s a1 a2 a3
  have hb := isT_b h_t
  refine ⟨s', h, RC_new (RC_refl hI) (fun j hj => h3 j (by omega)) (fun j _ => by rw [h2]) (by rw [h3 2 (by omega)]) (by rw [h3 2 (by omega)]; exact hI.2) (fun _ => by rw [h3 55 (by omega)])⟩
theorem T_X11_cell {j n : Nat} {s : mG} {a1 : Int32} (hj : SH[j]? = some (.inl (0, n, []))) (hI : IC s) : ok (F_X11_cell j s a1) PT := by
  obtain ⟨v, h⟩ := X11_cell_tot hj s a1
  exact ⟨v, h, trivial⟩
theorem T_X11_cell_unt {s : mG} {a1 : Int32} (hI : IC s) : ok (F_X11_cell 1000001 s a1) PT := by
  have h1 : mal 1000001 = some 5 := rfl
  unfold F_X11_cell F_X11_cell_20
  rw [h1]
  simp only [b1_some]
  by_cases h2 : a1 < 0
  · rw [if_pos h2]; exact ⟨_, rfl, trivial⟩
  · rw [if_neg h2]
    by_cases h3 : cn 5 ≤ a1
    · rw [if_pos h3]; exact ⟨_, rfl, trivial⟩
    · have h4 : mia s 1000001 a1 = some (m_unt.getD a1.toNatClampNeg 0) := by
        unfold mia
        rw [show SH[1000001]? = none from List.getElem?_eq_none (by decide)]
        simp only [if_neg (idx_ok (n := 5) (by decide) h2 h3)]
        rfl
      rw [if_neg h3, h4]
      exact ⟨_, rfl, trivial⟩
theorem T_X11_put {j n : Nat} {s : mG} {a1 a2 : Int32} (hj : SH[j]? = some (.inl (0, n, []))) (hd : j < 88 ∧ j ≠ 2 ∧ j ≠ 55) (hI : IC s) : ok (F_X11_put j a1 a2 s) (RC true s) := by
  obtain ⟨s', h, h2, h3⟩ := X11_put_tot hj s a1 a2
  refine ⟨s', h, RC_new (RC_refl hI) (fun i hi => h3 i (by omega)) (fun i _ => by rw [h2]) (by rw [h3 2 (by omega)]) (by rw [h3 2 (by omega)]; exact hI.2) (fun _ => by rw [h3 55 (by omega)])⟩
/-! strings -/
theorem imax_nn (x : Int32) : ¬ imax x (ci 0) < 0 := by
  unfold imax
  by_cases h : x < ci 0
  · rw [if_pos h]; decide
  · rw [if_neg h]; exact h
theorem t_rw {v w x : Int32} (h : v = w) (k : ¬ v ≤ x) : ¬ w ≤ x := h ▸ k
theorem mal_s {j : Nat} (h : 1000200 ≤ j ∧ j < 1000227) : mal j = some (m_sb.getD (j - 1000200) []).length := by
  unfold mal
  rw [List.getElem?_eq_none (by have : SH.length ≤ 105 := by decide
                                omega)]
  simp only
  rw [if_neg (by omega), if_pos h]
theorem F_len {sk : Nat} {s : mG} (h : 1000100 ≤ sk ∧ sk < 1000127) : F_J0_length_8abf5 sk s = some (cn (m_sb.getD (sk - 1000100) []).length) := by
  unfold F_J0_length_8abf5 F_J0_coder_7d493
  rw [mal_s (by omega), show sk + 100 - 1000200 = sk - 1000100 by omega, b1_some, if_neg (by decide), b1_some, show ((0 : Int32) &&& 31) = 0 by decide, Int32.shiftRight_zero]
theorem T_len {sk : Nat} {s : mG} (h : 1000100 ≤ sk ∧ sk < 1000127) : ok (F_J0_length_8abf5 sk s) (fun v => v = cn (m_sb.getD (sk - 1000100) []).length) := ⟨_, F_len h, rfl⟩
theorem m_sb_lt (k : Nat) : (m_sb.getD k []).length < 2147483648 := by
  have h : ∀ k, k < m_sb.length → (m_sb.getD k []).length < 2147483648 := by decide +kernel
  by_cases hk : k < m_sb.length
  · exact h k hk
  · rw [List.getD_eq_getElem?_getD, List.getElem?_eq_none (Nat.le_of_not_lt hk)]
    decide
theorem F_chk {s : mG} {a b : Int32} (h0 : ¬ a < 0) (h1 : ¬ b ≤ a) : F_J3_checkIndex_8e157 s a b = some a := by
  unfold F_J3_checkIndex_8e157
  rw [if_neg h0, if_pos (Int32.not_le.mp h1)]
theorem u_16 (z : UInt32) : ((z % 65536).toInt32.toUInt32.toUInt16.toUInt32.toInt32) = (z % 65536).toInt32 := by
  rw [UInt32.toUInt32_toInt32, UInt32.toUInt32_toUInt16]
  congr 1
  apply UInt32.toNat_inj.mp
  rw [UInt32.toNat_mod, UInt32.toNat_mod]
  exact Nat.mod_mod _ _
theorem T_chr {sk : Nat} {s : mG} {i : Int32} (h : 1000100 ≤ sk ∧ sk < 1000127) (h0 : ¬ i < 0) (h1 : ¬ cn (m_sb.getD (sk - 1000100) []).length ≤ i) : ok (F_J0_charAt_5068e sk s i) PT := by
  have e1 : F_J0_isLatin1_aae02 sk s = some (ci 1) := by
    unfold F_J0_isLatin1_aae02
    rw [if_neg (by decide), if_pos rfl]
  unfold F_J0_charAt_5068e
  rw [e1, b1_some, if_neg (by decide)]
  have e2 : F_J1_charAt_3b067 (sk + 100) s i = some ((((m_sb.getD (sk + 100 - 1000200) []).getD i.toNatClampNeg 0) &&& (c16 255)).toUInt32 % 65536).toInt32 := by
    unfold F_J1_charAt_3b067 F_J0_checkIndex_df160
    rw [mal_s (by omega), show sk + 100 - 1000200 = sk - 1000100 by omega, b1_some, F_chk h0 h1, b1_some, b1_some, if_neg (idx_ok (m_sb_lt _) h0 h1), if_pos (u_16 _)]
  rw [e2, b1_some, if_pos (u_16 _)]
  exact ok_some trivial
theorem T_J6_bitCount_0f7a4 {s : mG} {a1 : Int32} {K : Prop} (hI : K) : ok (F_J6_bitCount_0f7a4 s a1) PT := by
  unfold F_J6_bitCount_0f7a4
  exact ok_some trivial
end
/-! 54.a -/
section
noncomputable section
/-! X10_at: by hand -/
theorem T_X0_glanceAt {a1 : Int32} {s : mG} (hI : IC s) : ok (F_X0_glanceAt a1 s) (RC true s) := by
  have hR : RC true s s := RC_refl hI
  unfold F_X0_glanceAt
  unfold F_X0_glanceAt_L2
  refine ok_whl (fun v => a1 = v.1 ∧ RC true s v.2.2 ∧ ¬ v.2.1 < 0) (fun v => mUp v.2.1) ⟨rfl, hR, nn0⟩ (fun v hv => ?_)
  obtain ⟨x_3, x_4, s_5⟩ := v
  obtain ⟨rfl, rhs_6, rhn_7⟩ := hv
  have hs_6 : RC true s s_5 := rhs_6
  have hn_7 : ¬ x_4 < 0 := rhn_7
  show ok (F_X0_glanceAt_B2 a1 x_4 s_5) _
  unfold F_X0_glanceAt_B2
  refine ok_ite (fun h_8 => ?_) (fun h_9 => ?_)
  · exact ok_some (lp_inr (hs_6))
  · refine ok_b1 (T_X10_at isT_2 hs_6.1) (fun v_10 _ => ?_)
    refine ok_nn (idx_ok (by decide) hn_7 h_9) ?_
    extract_lets +onlyGivenNames s_12
    have hs_13 : RC true s s_12 := (RC_mw hs_6 (by decide))
    clear_value s_12
    exact ok_some (lp_inl ⟨rfl, hs_13, (up_nn hn_7 (ge_t h_9))⟩ (up_t (ge_t h_9)))
theorem T_X0_sureAfter {s : mG} {a1 : Int32} {a2 : Int32} {a3 : Int32} (hI : IC s) : ok (F_X0_sureAfter s a1 a2 a3) PT := by
  have hR : RC true s s := RC_refl hI
  unfold F_X0_sureAfter
  refine ok_b1 (T_X10_at isT_10 hR.1) (fun v_1 _ => ?_)
  refine ok_b1 (T_X10_at isT_10 hR.1) (fun v_3 _ => ?_)
  refine ok_ite (fun h_5 => ?_) (fun h_6 => ?_)
  · unfold F_X0_sureAfter_47
    refine ok_ite (fun h_7 => ?_) (fun h_8 => ?_)
    · unfold F_X0_sureAfter_70
      refine ok_ite (fun h_9 => ?_) (fun h_10 => ?_)
      · exact ok_some trivial
      · refine ok_nn (lgc_ne h_10) ?_
        exact ok_some trivial
    · unfold F_X0_sureAfter_70
      refine ok_ite (fun h_11 => ?_) (fun h_12 => ?_)
      · exact ok_some trivial
      · refine ok_nn (lgc_ne h_12) ?_
        exact ok_some trivial
  · unfold F_X0_sureAfter_47
    refine ok_ite (fun h_13 => ?_) (fun h_14 => ?_)
    · unfold F_X0_sureAfter_70
      refine ok_ite (fun h_15 => ?_) (fun h_16 => ?_)
      · exact ok_some trivial
      · refine ok_nn (lgc_ne h_16) ?_
        exact ok_some trivial
    · unfold F_X0_sureAfter_70
      refine ok_ite (fun h_17 => ?_) (fun h_18 => ?_)
      · exact ok_some trivial
      · refine ok_nn (lgc_ne h_18) ?_
        exact ok_some trivial
/-! X11_put: by hand -/
theorem T_X3_supposeHour {a1 : Int32} {s : mG} (hI : IC s) : ok (F_X3_supposeHour a1 s) (RC true s) := by
  have hR : RC true s s := RC_refl hI
  unfold F_X3_supposeHour
  refine ok_b1 (ok_tr hR (T_X11_put sh69 (by decide) hR.1)) (fun s_1 (hs_2 : RC true s s_1) => ?_)
  refine ok_b1 (ok_tr hs_2 (T_X11_put sh69 (by decide) hs_2.1)) (fun s_3 (hs_4 : RC true s s_3) => ?_)
  exact ok_some hs_4
theorem T_X3_face {a1 : Int32} {s : mG} (hI : IC s) : ok (F_X3_face a1 s) (RC true s) := by
  have hR : RC true s s := RC_refl hI
  unfold F_X3_face
  refine ok_b1 (ok_tr hR (T_X11_put sh69 (by decide) hR.1)) (fun s_1 (hs_2 : RC true s s_1) => ?_)
  refine ok_b1 (T_X10_at isT_2 hs_2.1) (fun v_3 _ => ?_)
  refine ok_b1 (ok_tr hs_2 (T_X11_put sh69 (by decide) hs_2.1)) (fun s_5 (hs_6 : RC true s s_5) => ?_)
  refine ok_b1 (T_X10_at isT_2 hs_6.1) (fun v_7 _ => ?_)
  refine ok_b1 (ok_tr hs_6 (T_X11_put sh69 (by decide) hs_6.1)) (fun s_9 (hs_10 : RC true s s_9) => ?_)
  refine ok_b1 (ok_tr hs_10 (T_X11_put sh69 (by decide) hs_10.1)) (fun s_11 (hs_12 : RC true s s_11) => ?_)
  refine ok_b1 (ok_tr hs_12 (T_X11_put sh69 (by decide) hs_12.1)) (fun s_13 (hs_14 : RC true s s_13) => ?_)
  refine ok_b1 (T_X10_at isT_2 hs_14.1) (fun v_15 _ => ?_)
  refine ok_ite (fun h_17 => ?_) (fun h_18 => ?_)
  · unfold F_X3_face_107
    refine ok_b1 (ok_tr hs_14 (T_X11_put sh69 (by decide) hs_14.1)) (fun s_19 (hs_20 : RC true s s_19) => ?_)
    refine ok_b1 (T_X10_at isT_2 hs_20.1) (fun v_21 _ => ?_)
    refine ok_b1 (ok_tr hs_20 (T_X11_put sh69 (by decide) hs_20.1)) (fun s_23 (hs_24 : RC true s s_23) => ?_)
    refine ok_b1 (ok_tr hs_24 (T_X3_supposeHour hs_24.1)) (fun s_25 (hs_26 : RC true s s_25) => ?_)
    exact ok_some hs_26
  · unfold F_X3_face_107
    refine ok_b1 (ok_tr hs_14 (T_X11_put sh69 (by decide) hs_14.1)) (fun s_27 (hs_28 : RC true s s_27) => ?_)
    refine ok_b1 (T_X10_at isT_2 hs_28.1) (fun v_29 _ => ?_)
    refine ok_b1 (ok_tr hs_28 (T_X11_put sh69 (by decide) hs_28.1)) (fun s_31 (hs_32 : RC true s s_31) => ?_)
    refine ok_b1 (ok_tr hs_32 (T_X3_supposeHour hs_32.1)) (fun s_33 (hs_34 : RC true s s_33) => ?_)
    exact ok_some hs_34
theorem T_X3_joined {s : mG} {a1 : Int32} {a2 : Int32} {a3 : Int32} (hI : IC s) : ok (F_X3_joined s a1 a2 a3) PT := by
  have hR : RC true s s := RC_refl hI
  unfold F_X3_joined
  refine ok_ite (fun h_1 => ?_) (fun h_2 => ?_)
  · exact ok_some trivial
  · refine ok_ite (fun h_3 => ?_) (fun h_4 => ?_)
    · exact ok_some trivial
    · refine ok_ite (fun h_5 => ?_) (fun h_6 => ?_)
      · exact ok_some trivial
      · refine ok_ite (fun h_7 => ?_) (fun h_8 => ?_)
        · unfold F_X3_joined_109
          exact ok_some trivial
        · refine ok_ite (fun h_9 => ?_) (fun h_10 => ?_)
          · refine ok_ite (fun h_11 => ?_) (fun h_12 => ?_)
            · exact ok_some trivial
            · exact ok_some trivial
          · refine ok_ite (fun h_13 => ?_) (fun h_14 => ?_)
            · refine ok_ite (fun h_15 => ?_) (fun h_16 => ?_)
              · exact ok_some trivial
              · exact ok_some trivial
            · refine ok_ite (fun h_17 => ?_) (fun h_18 => ?_)
              · refine ok_ite (fun h_19 => ?_) (fun h_20 => ?_)
                · exact ok_some trivial
                · exact ok_some trivial
              · refine ok_ite (fun h_21 => ?_) (fun h_22 => ?_)
                · unfold F_X3_joined_109
                  exact ok_some trivial
                · refine ok_ite (fun h_23 => ?_) (fun h_24 => ?_)
                  · exact ok_some trivial
                  · refine ok_ite (fun h_25 => ?_) (fun h_26 => ?_)
                    · exact ok_some trivial
                    · unfold F_X3_joined_109
                      exact ok_some trivial
/-! X11_cell: by hand -/
theorem T_X3_valueOf {a1 : Int32} {a2 : Int32} {s : mG} (hI : IC s) : ok (F_X3_valueOf a1 a2 s) (fun τ => RC true s τ.2) := by
  have hR : RC true s s := RC_refl hI
  unfold F_X3_valueOf
  unfold F_X3_valueOf_L5
  refine ok_whl (fun v => a2 = v.1 ∧ RC true s v.2.2.2) (fun v => mUp v.2.2.1) ⟨rfl, hR⟩ (fun v hv => ?_)
  obtain ⟨x_32, x_33, x_34, s_35⟩ := v
  obtain ⟨rfl, rhs_36⟩ := hv
  have hs_36 : RC true s s_35 := rhs_36
  show ok (F_X3_valueOf_B5 a2 x_33 x_34 s_35) _
  unfold F_X3_valueOf_B5
  refine ok_ite (fun h_37 => ?_) (fun h_38 => ?_)
  · refine ok_b1 (T_X11_cell sh70 hs_36.1) (fun v_39 _ => ?_)
    exact ok_some (lp_inr (hs_36))
  · refine ok_b1 (T_X10_at isT_8 hs_36.1) (fun v_41 _ => ?_)
    refine ok_b1 (T_X10_at isT_8 hs_36.1) (fun v_43 _ => ?_)
    refine ok_b1 (T_X11_cell sh70 hs_36.1) (fun v_45 _ => ?_)
    refine ok_ite (fun h_47 => ?_) (fun h_48 => ?_)
    · refine ok_b1 (ok_tr hs_36 (T_X11_put sh70 (by decide) hs_36.1)) (fun s_49 (hs_50 : RC true s s_49) => ?_)
      unfold F_X3_valueOf_229
      exact ok_some (lp_inl ⟨rfl, hs_50⟩ (up_t (ge_t h_38)))
    · refine ok_ite (fun h_51 => ?_) (fun h_52 => ?_)
      · refine ok_b1 (T_X11_cell sh69 hs_36.1) (fun v_53 _ => ?_)
        refine ok_b1 (ok_tr hs_36 (T_X11_put sh70 (by decide) hs_36.1)) (fun s_55 (hs_56 : RC true s s_55) => ?_)
        unfold F_X3_valueOf_229
        exact ok_some (lp_inl ⟨rfl, hs_56⟩ (up_t (ge_t h_38)))
      · refine ok_ite (fun h_57 => ?_) (fun h_58 => ?_)
        · unfold F_X3_valueOf_199
          refine ok_b1 (T_X11_cell sh70 hs_36.1) (fun v_59 _ => ?_)
          refine ok_b1 (T_X3_joined hs_36.1) (fun v_61 _ => ?_)
          refine ok_b1 (ok_tr hs_36 (T_X11_put sh70 (by decide) hs_36.1)) (fun s_63 (hs_64 : RC true s s_63) => ?_)
          unfold F_X3_valueOf_229
          exact ok_some (lp_inl ⟨rfl, hs_64⟩ (up_t (ge_t h_38)))
        · refine ok_ite (fun h_65 => ?_) (fun h_66 => ?_)
          · unfold F_X3_valueOf_199
            refine ok_b1 (T_X11_cell sh70 hs_36.1) (fun v_67 _ => ?_)
            refine ok_b1 (T_X3_joined hs_36.1) (fun v_69 _ => ?_)
            refine ok_b1 (ok_tr hs_36 (T_X11_put sh70 (by decide) hs_36.1)) (fun s_71 (hs_72 : RC true s s_71) => ?_)
            unfold F_X3_valueOf_229
            exact ok_some (lp_inl ⟨rfl, hs_72⟩ (up_t (ge_t h_38)))
          · refine ok_ite (fun h_73 => ?_) (fun h_74 => ?_)
            · unfold F_X3_valueOf_199
              refine ok_b1 (T_X11_cell sh70 hs_36.1) (fun v_75 _ => ?_)
              refine ok_b1 (T_X3_joined hs_36.1) (fun v_77 _ => ?_)
              refine ok_b1 (ok_tr hs_36 (T_X11_put sh70 (by decide) hs_36.1)) (fun s_79 (hs_80 : RC true s s_79) => ?_)
              unfold F_X3_valueOf_229
              exact ok_some (lp_inl ⟨rfl, hs_80⟩ (up_t (ge_t h_38)))
            · refine ok_ite (fun h_81 => ?_) (fun h_82 => ?_)
              · refine ok_ite (fun h_83 => ?_) (fun h_84 => ?_)
                · unfold F_X3_valueOf_176
                  refine ok_b1 (ok_tr hs_36 (T_X11_put sh70 (by decide) hs_36.1)) (fun s_85 (hs_86 : RC true s s_85) => ?_)
                  unfold F_X3_valueOf_229
                  exact ok_some (lp_inl ⟨rfl, hs_86⟩ (up_t (ge_t h_38)))
                · refine ok_nn h_84 ?_
                  unfold F_X3_valueOf_176
                  refine ok_b1 (ok_tr hs_36 (T_X11_put sh70 (by decide) hs_36.1)) (fun s_87 (hs_88 : RC true s s_87) => ?_)
                  unfold F_X3_valueOf_229
                  exact ok_some (lp_inl ⟨rfl, hs_88⟩ (up_t (ge_t h_38)))
              · refine ok_ite (fun h_89 => ?_) (fun h_90 => ?_)
                · unfold F_X3_valueOf_199
                  refine ok_b1 (T_X11_cell sh70 hs_36.1) (fun v_91 _ => ?_)
                  refine ok_b1 (T_X3_joined hs_36.1) (fun v_93 _ => ?_)
                  refine ok_b1 (ok_tr hs_36 (T_X11_put sh70 (by decide) hs_36.1)) (fun s_95 (hs_96 : RC true s s_95) => ?_)
                  unfold F_X3_valueOf_229
                  exact ok_some (lp_inl ⟨rfl, hs_96⟩ (up_t (ge_t h_38)))
                · refine ok_ite (fun h_97 => ?_) (fun h_98 => ?_)
                  · unfold F_X3_valueOf_199
                    refine ok_b1 (T_X11_cell sh70 hs_36.1) (fun v_99 _ => ?_)
                    refine ok_b1 (T_X3_joined hs_36.1) (fun v_101 _ => ?_)
                    refine ok_b1 (ok_tr hs_36 (T_X11_put sh70 (by decide) hs_36.1)) (fun s_103 (hs_104 : RC true s s_103) => ?_)
                    unfold F_X3_valueOf_229
                    exact ok_some (lp_inl ⟨rfl, hs_104⟩ (up_t (ge_t h_38)))
                  · refine ok_ite (fun h_105 => ?_) (fun h_106 => ?_)
                    · unfold F_X3_valueOf_199
                      refine ok_b1 (T_X11_cell sh70 hs_36.1) (fun v_107 _ => ?_)
                      refine ok_b1 (T_X3_joined hs_36.1) (fun v_109 _ => ?_)
                      refine ok_b1 (ok_tr hs_36 (T_X11_put sh70 (by decide) hs_36.1)) (fun s_111 (hs_112 : RC true s s_111) => ?_)
                      unfold F_X3_valueOf_229
                      exact ok_some (lp_inl ⟨rfl, hs_112⟩ (up_t (ge_t h_38)))
                    · refine ok_ite (fun h_113 => ?_) (fun h_114 => ?_)
                      · refine ok_b1 (ok_tr hs_36 (T_X11_put sh70 (by decide) hs_36.1)) (fun s_115 (hs_116 : RC true s s_115) => ?_)
                        unfold F_X3_valueOf_229
                        exact ok_some (lp_inl ⟨rfl, hs_116⟩ (up_t (ge_t h_38)))
                      · unfold F_X3_valueOf_199
                        refine ok_b1 (T_X11_cell sh70 hs_36.1) (fun v_117 _ => ?_)
                        refine ok_b1 (T_X3_joined hs_36.1) (fun v_119 _ => ?_)
                        refine ok_b1 (ok_tr hs_36 (T_X11_put sh70 (by decide) hs_36.1)) (fun s_121 (hs_122 : RC true s s_121) => ?_)
                        unfold F_X3_valueOf_229
                        exact ok_some (lp_inl ⟨rfl, hs_122⟩ (up_t (ge_t h_38)))
theorem T_X3_tells {a1 : Int32} {s : mG} (hI : IC s) : ok (F_X3_tells a1 s) (fun τ => RC true s τ.2) := by
  have hR : RC true s s := RC_refl hI
  unfold F_X3_tells
  unfold F_X3_tells_L2
  refine ok_whl (fun v => a1 = v.1 ∧ RC true s v.2.2 ∧ ¬ v.2.1 < 0) (fun v => mUp v.2.1) ⟨rfl, hR, nn0⟩ (fun v hv => ?_)
  obtain ⟨x_10, x_11, s_12⟩ := v
  obtain ⟨rfl, rhs_13, rhn_14⟩ := hv
  have hs_13 : RC true s s_12 := rhs_13
  have hn_14 : ¬ x_11 < 0 := rhn_14
  show ok (F_X3_tells_B2 a1 x_11 s_12) _
  unfold F_X3_tells_B2
  refine ok_ite (fun h_15 => ?_) (fun h_16 => ?_)
  · refine ok_ite (fun h_17 => ?_) (fun h_18 => ?_)
    · refine ok_b1 (T_X11_cell sh69 hs_13.1) (fun v_19 _ => ?_)
      refine ok_ite (fun h_21 => ?_) (fun h_22 => ?_)
      · exact ok_some (lp_inr (hs_13))
      · exact ok_some (lp_inr (hs_13))
    · refine ok_b1 (T_X11_cell_unt hs_13.1) (fun v_23 _ => ?_)
      exact ok_some (lp_inr (hs_13))
  · refine ok_b1 (T_X10_at isT_6 hs_13.1) (fun v_25 _ => ?_)
    refine ok_b1 (T_X10_at isT_6 hs_13.1) (fun v_27 _ => ?_)
    refine ok_b1 (T_X10_at isT_6 hs_13.1) (fun v_29 _ => ?_)
    refine ok_ite (fun h_31 => ?_) (fun h_32 => ?_)
    · unfold F_X3_tells_64
      refine ok_ite (fun h_33 => ?_) (fun h_34 => ?_)
      · unfold F_X3_tells_115
        exact ok_some (lp_inl ⟨rfl, hs_13, (up_nn hn_14 (ge_t h_16))⟩ (up_t (ge_t h_16)))
      · refine ok_ite (fun h_35 => ?_) (fun h_36 => ?_)
        · refine ok_b1r ?_
          unfold F_X3_tells_87
          refine ok_b1 (T_X10_at isT_6 hs_13.1) (fun v_37 _ => ?_)
          refine ok_b2 (ok_tr2 hs_13 (T_X3_valueOf hs_13.1)) (fun v_39 s_40 (hs_41 : RC true s s_40) => ?_)
          extract_lets +onlyGivenNames v_42
          clear_value v_42
          exact ok_some hs_41
        · refine ok_b2 (ok_tr2 hs_13 (T_X3_valueOf hs_13.1)) (fun v_43 s_44 (hs_45 : RC true s s_44) => ?_)
          refine ok_ite (fun h_46 => ?_) (fun h_47 => ?_)
          · unfold F_X3_tells_115
            exact ok_some (lp_inl ⟨rfl, hs_45, (up_nn hn_14 (ge_t h_16))⟩ (up_t (ge_t h_16)))
          · refine ok_b1r ?_
            unfold F_X3_tells_87
            refine ok_b1 (T_X10_at isT_6 hs_45.1) (fun v_48 _ => ?_)
            refine ok_b2 (ok_tr2 hs_45 (T_X3_valueOf hs_45.1)) (fun v_50 s_51 (hs_52 : RC true s s_51) => ?_)
            extract_lets +onlyGivenNames v_53
            clear_value v_53
            exact ok_some hs_52
    · unfold F_X3_tells_64
      refine ok_ite (fun h_54 => ?_) (fun h_55 => ?_)
      · unfold F_X3_tells_115
        exact ok_some (lp_inl ⟨rfl, hs_13, (up_nn hn_14 (ge_t h_16))⟩ (up_t (ge_t h_16)))
      · refine ok_ite (fun h_56 => ?_) (fun h_57 => ?_)
        · refine ok_b1r ?_
          unfold F_X3_tells_87
          refine ok_b1 (T_X10_at isT_6 hs_13.1) (fun v_58 _ => ?_)
          refine ok_b2 (ok_tr2 hs_13 (T_X3_valueOf hs_13.1)) (fun v_60 s_61 (hs_62 : RC true s s_61) => ?_)
          extract_lets +onlyGivenNames v_63
          clear_value v_63
          exact ok_some hs_62
        · refine ok_b2 (ok_tr2 hs_13 (T_X3_valueOf hs_13.1)) (fun v_64 s_65 (hs_66 : RC true s s_65) => ?_)
          refine ok_ite (fun h_67 => ?_) (fun h_68 => ?_)
          · unfold F_X3_tells_115
            exact ok_some (lp_inl ⟨rfl, hs_66, (up_nn hn_14 (ge_t h_16))⟩ (up_t (ge_t h_16)))
          · refine ok_b1r ?_
            unfold F_X3_tells_87
            refine ok_b1 (T_X10_at isT_6 hs_66.1) (fun v_69 _ => ?_)
            refine ok_b2 (ok_tr2 hs_66 (T_X3_valueOf hs_66.1)) (fun v_71 s_72 (hs_73 : RC true s s_72) => ?_)
            extract_lets +onlyGivenNames v_74
            clear_value v_74
            exact ok_some hs_73
theorem T_X0_sureByGlance {a1 : Int32} {s : mG} (hI : IC s) : ok (F_X0_sureByGlance a1 s) (fun τ => RC true s τ.2) := by
  have hR : RC true s s := RC_refl hI
  unfold F_X0_sureByGlance
  refine ok_b1 (ok_tr hR (T_X3_face hR.1)) (fun s_1 (hs_2 : RC true s s_1) => ?_)
  refine ok_b2 (ok_tr2 hs_2 (T_X3_tells hs_2.1)) (fun v_3 s_4 (hs_5 : RC true s s_4) => ?_)
  unfold F_X0_sureByGlance_L23
  refine ok_whl (fun v => RC true s v.2.2 ∧ ¬ v.2.1 < 0) (fun v => mUp v.2.1) ⟨hs_5, nn0⟩ (fun v hv => ?_)
  obtain ⟨x_9, x_10, s_11⟩ := v
  obtain ⟨rhs_12, rhn_13⟩ := hv
  have hs_12 : RC true s s_11 := rhs_12
  have hn_13 : ¬ x_10 < 0 := rhn_13
  show ok (F_X0_sureByGlance_B23 x_9 x_10 s_11) _
  unfold F_X0_sureByGlance_B23
  refine ok_ite (fun h_14 => ?_) (fun h_15 => ?_)
  · exact ok_some (lp_inr (hs_12))
  · refine ok_b1 (T_X11_cell sh74 hs_12.1) (fun v_16 _ => ?_)
    refine ok_ite (fun h_18 => ?_) (fun h_19 => ?_)
    · unfold F_X0_sureByGlance_74
      exact ok_some (lp_inl ⟨hs_12, (up_nn hn_13 (ge_t h_15))⟩ (up_t (ge_t h_15)))
    · refine ok_ite (fun h_20 => ?_) (fun h_21 => ?_)
      · unfold F_X0_sureByGlance_71
        refine ok_b1 (T_X0_sureAfter hs_12.1) (fun v_22 _ => ?_)
        unfold F_X0_sureByGlance_74
        exact ok_some (lp_inl ⟨hs_12, (up_nn hn_13 (ge_t h_15))⟩ (up_t (ge_t h_15)))
      · unfold F_X0_sureByGlance_71
        refine ok_b1 (T_X0_sureAfter hs_12.1) (fun v_24 _ => ?_)
        unfold F_X0_sureByGlance_74
        exact ok_some (lp_inl ⟨hs_12, (up_nn hn_13 (ge_t h_15))⟩ (up_t (ge_t h_15)))
theorem T_X0_sureOf {a1 : Int32} {s : mG} (hI : IC s) : ok (F_X0_sureOf a1 s) (fun τ => RC true s τ.2) := by
  have hR : RC true s s := RC_refl hI
  unfold F_X0_sureOf
  refine ok_b1 (ok_tr hR (T_X0_glanceAt hR.1)) (fun s_1 (hs_2 : RC true s s_1) => ?_)
  refine ok_b2 (ok_tr2 hs_2 (T_X0_sureByGlance hs_2.1)) (fun v_3 s_4 (hs_5 : RC true s s_4) => ?_)
  exact ok_some hs_5
theorem T_X0_chanceToSee {s : mG} {a1 : Int32} {a2 : Int32} (hI : IC s) : ok (F_X0_chanceToSee s a1 a2) PT := by
  have hR : RC true s s := RC_refl hI
  unfold F_X0_chanceToSee
  refine ok_b1 (T_X10_at isT_10 hR.1) (fun v_1 _ => ?_)
  refine ok_b1 (T_X10_at isT_10 hR.1) (fun v_3 _ => ?_)
  exact ok_some trivial
theorem T_X0_surenessBy {s : mG} {a1 : Int32} {a2 : Int32} (hI : IC s) : ok (F_X0_surenessBy s a1 a2) PT := by
  have hR : RC true s s := RC_refl hI
  unfold F_X0_surenessBy
  refine ok_b1 (T_X0_chanceToSee hR.1) (fun v_1 _ => ?_)
  refine ok_b1 (T_X0_sureAfter hR.1) (fun v_3 _ => ?_)
  refine ok_b1 (T_X0_sureAfter hR.1) (fun v_5 _ => ?_)
  exact ok_some trivial
theorem T_X0_bestSign {s : mG} {a1 : Int32} (hI : IC s) : ok (F_X0_bestSign s a1) PT := by
  have hR : RC true s s := RC_refl hI
  unfold F_X0_bestSign
  unfold F_X0_bestSign_L9
  refine ok_whl (fun v => a1 = v.1 ∧ ¬ v.2.2.2 < 0) (fun v => mUp v.2.2.2) ⟨rfl, nn0⟩ (fun v hv => ?_)
  obtain ⟨x_3, x_4, x_5, x_6⟩ := v
  obtain ⟨rfl, rhn_7⟩ := hv
  have hn_7 : ¬ x_6 < 0 := rhn_7
  show ok (F_X0_bestSign_B9 s a1 x_4 x_5 x_6) _
  unfold F_X0_bestSign_B9
  refine ok_ite (fun h_8 => ?_) (fun h_9 => ?_)
  · exact ok_some (lp_inr (trivial))
  · refine ok_b1 (T_X0_surenessBy hR.1) (fun v_10 _ => ?_)
    refine ok_b1 (T_X11_cell sh74 hR.1) (fun v_12 _ => ?_)
    refine ok_ite (fun h_14 => ?_) (fun h_15 => ?_)
    · refine ok_ite (fun h_16 => ?_) (fun h_17 => ?_)
      · unfold F_X0_bestSign_59
        exact ok_some (lp_inl ⟨rfl, (up_nn hn_7 (ge_t h_9))⟩ (up_t (ge_t h_9)))
      · unfold F_X0_bestSign_59
        exact ok_some (lp_inl ⟨rfl, (up_nn hn_7 (ge_t h_9))⟩ (up_t (ge_t h_9)))
    · unfold F_X0_bestSign_59
      exact ok_some (lp_inl ⟨rfl, (up_nn hn_7 (ge_t h_9))⟩ (up_t (ge_t h_9)))
theorem T_X0_signAt {a1 : Int32} {a2 : Int32} {s : mG} (hI : IC s) : ok (F_X0_signAt a1 a2 s) (fun τ => RC true s τ.2) := by
  have hR : RC true s s := RC_refl hI
  unfold F_X0_signAt
  refine ok_b1 (ok_tr hR (T_X0_glanceAt hR.1)) (fun s_1 (hs_2 : RC true s s_1) => ?_)
  unfold F_X0_signAt_L7
  refine ok_whl (fun v => a1 = v.1 ∧ a2 = v.2.1 ∧ RC true s v.2.2.2 ∧ ¬ v.2.2.1 < 0) (fun v => mUp v.2.2.1) ⟨rfl, rfl, hs_2, nn0⟩ (fun v hv => ?_)
  obtain ⟨x_9, x_10, x_11, s_12⟩ := v
  obtain ⟨rfl, rfl, rhs_13, rhn_14⟩ := hv
  have hs_13 : RC true s s_12 := rhs_13
  have hn_14 : ¬ x_11 < 0 := rhn_14
  show ok (F_X0_signAt_B7 a1 a2 x_11 s_12) _
  unfold F_X0_signAt_B7
  refine ok_ite (fun h_15 => ?_) (fun h_16 => ?_)
  · exact ok_some (lp_inr (hs_13))
  · refine ok_b2 (ok_tr2 hs_13 (T_X0_sureByGlance hs_13.1)) (fun v_17 s_18 (hs_19 : RC true s s_18) => ?_)
    refine ok_b1 (T_X0_bestSign hs_19.1) (fun v_20 _ => ?_)
    refine ok_ite (fun h_22 => ?_) (fun h_23 => ?_)
    · refine ok_b1r ?_
      unfold F_X0_signAt_39
      exact ok_some hs_19
    · refine ok_ite (fun h_24 => ?_) (fun h_25 => ?_)
      · refine ok_b1r ?_
        unfold F_X0_signAt_39
        exact ok_some hs_19
      · refine ok_b1 (T_X0_chanceToSee hs_19.1) (fun v_26 _ => ?_)
        refine ok_ite (fun h_28 => ?_) (fun h_29 => ?_)
        · unfold F_X0_signAt_66
          refine ok_b1 (ok_tr hs_19 (T_X11_put sh74 (by decide) hs_19.1)) (fun s_30 (hs_31 : RC true s s_30) => ?_)
          exact ok_some (lp_inl ⟨rfl, rfl, hs_31, (up_nn hn_14 (ge_t h_16))⟩ (up_t (ge_t h_16)))
        · unfold F_X0_signAt_66
          refine ok_b1 (ok_tr hs_19 (T_X11_put sh74 (by decide) hs_19.1)) (fun s_32 (hs_33 : RC true s s_32) => ?_)
          exact ok_some (lp_inl ⟨rfl, rfl, hs_33, (up_nn hn_14 (ge_t h_16))⟩ (up_t (ge_t h_16)))
theorem T_X0_isBestSaidIn {s : mG} {a1 : Int64} {a2 : Int32} {a3 : Int32} (hI : IC s) : ok (F_X0_isBestSaidIn s a1 a2 a3) PB := by
  have hR : RC true s s := RC_refl hI
  unfold F_X0_isBestSaidIn
  refine ok_ite (fun h_1 => ?_) (fun h_2 => ?_)
  · exact ok_some pb0
  · exact ok_some pb1
theorem T_X0_saysIn {a1 : Int32} {a2 : Int32} {a3 : Int32} {s : mG} (hI : IC s) : ok (F_X0_saysIn a1 a2 a3 s) (fun τ => PB τ.1 ∧ RC true s τ.2) := by
  have hR : RC true s s := RC_refl hI
  unfold F_X0_saysIn
  refine ok_b2 (ok_tr2 hR (T_X0_sureOf hR.1)) (fun v_1 s_2 (hs_3 : RC true s s_2) => ?_)
  refine ok_b1 (T_X0_isBestSaidIn hs_3.1) (fun v_4 (hv_5 : PB v_4) => ?_)
  refine ok_pp hv_5 ?_
  exact ok_some ⟨hv_5, hs_3⟩
theorem T_X11_share {s : mG} {a1 : Int32} {a2 : Int32} (hI : IC s) : ok (F_X11_share s a1 a2) PT := by
  have hR : RC true s s := RC_refl hI
  unfold F_X11_share
  exact ok_some trivial
theorem T_X0_saidToAll {a1 : Int32} {s : mG} (hI : IC s) : ok (F_X0_saidToAll a1 s) (fun τ => RC true s τ.2) := by
  have hR : RC true s s := RC_refl hI
  unfold F_X0_saidToAll
  unfold F_X0_saidToAll_L7
  refine ok_whl (fun v => a1 = v.1 ∧ RC true s v.2.2.2.2 ∧ ¬ v.2.2.2.1 < 0) (fun v => mUp v.2.2.2.1) ⟨rfl, hR, nn0⟩ (fun v hv => ?_)
  obtain ⟨x_11, x_12, x_13, x_14, s_15⟩ := v
  obtain ⟨rfl, rhs_16, rhn_17⟩ := hv
  have hs_16 : RC true s s_15 := rhs_16
  have hn_17 : ¬ x_14 < 0 := rhn_17
  show ok (F_X0_saidToAll_B7 a1 x_12 x_13 x_14 s_15) _
  unfold F_X0_saidToAll_B7
  refine ok_ite (fun h_18 => ?_) (fun h_19 => ?_)
  · refine ok_ite (fun h_20 => ?_) (fun h_21 => ?_)
    · exact ok_some (lp_inr (hs_16))
    · exact ok_some (lp_inr (hs_16))
  · refine ok_b1 (T_X10_at isT_16 hs_16.1) (fun v_22 _ => ?_)
    refine ok_b2 (ok_tr2 hs_16 (T_X0_sureOf hs_16.1)) (fun v_24 s_25 (hs_26 : RC true s s_25) => ?_)
    refine ok_b1 (T_X10_at isT_16 hs_26.1) (fun v_27 _ => ?_)
    refine ok_b1 (T_X10_at isT_16 hs_26.1) (fun v_29 _ => ?_)
    refine ok_b1 (T_X0_isBestSaidIn hs_26.1) (fun v_31 (hv_32 : PB v_31) => ?_)
    refine ok_ite (fun h_33 => ?_) (fun h_34 => ?_)
    · unfold F_X0_saidToAll_97
      refine ok_ite (fun h_35 => ?_) (fun h_36 => ?_)
      · refine ok_b1 (T_X11_share hs_26.1) (fun v_37 _ => ?_)
        unfold F_X0_saidToAll_125
        exact ok_some (lp_inl ⟨rfl, hs_26, (up_nn hn_17 (ge_t h_19))⟩ (up_t (ge_t h_19)))
      · refine ok_b1 (T_X11_share hs_26.1) (fun v_39 _ => ?_)
        unfold F_X0_saidToAll_125
        exact ok_some (lp_inl ⟨rfl, hs_26, (up_nn hn_17 (ge_t h_19))⟩ (up_t (ge_t h_19)))
    · unfold F_X0_saidToAll_97
      refine ok_ite (fun h_41 => ?_) (fun h_42 => ?_)
      · refine ok_b1 (T_X11_share hs_26.1) (fun v_43 _ => ?_)
        unfold F_X0_saidToAll_125
        exact ok_some (lp_inl ⟨rfl, hs_26, (up_nn hn_17 (ge_t h_19))⟩ (up_t (ge_t h_19)))
      · refine ok_b1 (T_X11_share hs_26.1) (fun v_45 _ => ?_)
        unfold F_X0_saidToAll_125
        exact ok_some (lp_inl ⟨rfl, hs_26, (up_nn hn_17 (ge_t h_19))⟩ (up_t (ge_t h_19)))
theorem T_X0_weighAll {s : mG} (hI : IC s) : ok (F_X0_weighAll s) (RC true s) := by
  have hR : RC true s s := RC_refl hI
  unfold F_X0_weighAll
  unfold F_X0_weighAll_L2
  refine ok_whl (fun v => RC true s v.2 ∧ ¬ v.1 < 0) (fun v => mUp v.1) ⟨hR, nn0⟩ (fun v hv => ?_)
  obtain ⟨x_5, s_6⟩ := v
  obtain ⟨rhs_7, rhn_8⟩ := hv
  have hs_7 : RC true s s_6 := rhs_7
  have hn_8 : ¬ x_5 < 0 := rhn_8
  show ok (F_X0_weighAll_B2 x_5 s_6) _
  unfold F_X0_weighAll_B2
  refine ok_ite (fun h_9 => ?_) (fun h_10 => ?_)
  · exact ok_some (lp_inr (hs_7))
  · refine ok_b1 (ok_tr hs_7 (T_X0_glanceAt hs_7.1)) (fun s_11 (hs_12 : RC true s s_11) => ?_)
    refine ok_b2 (ok_tr2 hs_12 (T_X0_sureByGlance hs_12.1)) (fun v_13 s_14 (hs_15 : RC true s s_14) => ?_)
    refine ok_b1 (ok_tr hs_15 (T_X11_put sh76 (by decide) hs_15.1)) (fun s_16 (hs_17 : RC true s s_16) => ?_)
    exact ok_some (lp_inl ⟨hs_17, (up_nn hn_8 (ge_t h_10))⟩ (up_t (ge_t h_10)))
theorem T_X0_sumOfSure {s : mG} (hI : IC s) : ok (F_X0_sumOfSure s) (fun τ => RC true s τ.2) := by
  have hR : RC true s s := RC_refl hI
  unfold F_X0_sumOfSure
  refine ok_b1 (ok_tr hR (T_X0_weighAll hR.1)) (fun s_1 (hs_2 : RC true s s_1) => ?_)
  unfold F_X0_sumOfSure_L8
  refine ok_whl (fun v => RC true s v.2.2 ∧ ¬ v.2.1 < 0) (fun v => mUp v.2.1) ⟨hs_2, nn0⟩ (fun v hv => ?_)
  obtain ⟨x_4, x_5, s_6⟩ := v
  obtain ⟨rhs_7, rhn_8⟩ := hv
  have hs_7 : RC true s s_6 := rhs_7
  have hn_8 : ¬ x_5 < 0 := rhn_8
  show ok (F_X0_sumOfSure_B8 x_4 x_5 s_6) _
  unfold F_X0_sumOfSure_B8
  refine ok_ite (fun h_9 => ?_) (fun h_10 => ?_)
  · exact ok_some (lp_inr (hs_7))
  · refine ok_b1 (T_X11_cell sh76 hs_7.1) (fun v_11 _ => ?_)
    exact ok_some (lp_inl ⟨hs_7, (up_nn hn_8 (ge_t h_10))⟩ (up_t (ge_t h_10)))
theorem T_X0_countChance {a1 : Int32} {s : mG} (hI : IC s) : ok (F_X0_countChance a1 s) (RC true s) := by
  have hR : RC true s s := RC_refl hI
  unfold F_X0_countChance
  unfold F_X0_countChance_L8
  refine ok_whl (fun v => a1 = v.1 ∧ RC true s v.2.2) (fun v => mDn v.2.1) ⟨rfl, hR⟩ (fun v hv => ?_)
  obtain ⟨x_6, x_7, s_8⟩ := v
  obtain ⟨rfl, rhs_9⟩ := hv
  have hs_9 : RC true s s_8 := rhs_9
  show ok (F_X0_countChance_B8 a1 x_7 s_8) _
  unfold F_X0_countChance_B8
  refine ok_ite (fun h_10 => ?_) (fun h_11 => ?_)
  · exact ok_some (lp_inr (hs_9))
  · refine ok_b1 (T_X11_cell sh75 hs_9.1) (fun v_12 _ => ?_)
    refine ok_b1 (T_X11_share hs_9.1) (fun v_14 _ => ?_)
    refine ok_b1 (T_X11_cell sh75 hs_9.1) (fun v_16 _ => ?_)
    refine ok_b1 (T_X11_share hs_9.1) (fun v_18 _ => ?_)
    refine ok_b1 (ok_tr hs_9 (T_X11_put sh75 (by decide) hs_9.1)) (fun s_20 (hs_21 : RC true s s_20) => ?_)
    exact ok_some (lp_inl ⟨rfl, hs_21⟩ (dn_t h_11))
theorem T_X0_countChances {a1 : Int32} {s : mG} (hI : IC s) : ok (F_X0_countChances a1 s) (RC true s) := by
  have hR : RC true s s := RC_refl hI
  unfold F_X0_countChances
  refine ok_b1 (ok_tr hR (T_X0_weighAll hR.1)) (fun s_1 (hs_2 : RC true s s_1) => ?_)
  unfold F_X0_countChances_L6
  refine ok_whl (fun v => a1 = v.1 ∧ RC true s v.2.2 ∧ ¬ v.2.1 < 0) (fun v => mUp v.2.1) ⟨rfl, hs_2, nn0⟩ (fun v hv => ?_)
  obtain ⟨x_5, x_6, s_7⟩ := v
  obtain ⟨rfl, rhs_8, rhn_9⟩ := hv
  have hs_8 : RC true s s_7 := rhs_8
  have hn_9 : ¬ x_6 < 0 := rhn_9
  show ok (F_X0_countChances_B6 a1 x_6 s_7) _
  unfold F_X0_countChances_B6
  refine ok_ite (fun h_10 => ?_) (fun h_11 => ?_)
  · refine ok_b1r ?_
    unfold F_X0_countChances_L39
    refine ok_whl (fun v => a1 = v.1 ∧ RC true s v.2.2 ∧ ¬ v.2.1 < 0) (fun v => mUp v.2.1) ⟨rfl, hs_8, nn0⟩ (fun v hv => ?_)
    obtain ⟨x_14, x_15, s_16⟩ := v
    obtain ⟨rfl, rhs_17, rhn_18⟩ := hv
    have hs_17 : RC true s s_16 := rhs_17
    have hn_18 : ¬ x_15 < 0 := rhn_18
    show ok (F_X0_countChances_B39 a1 x_15 s_16) _
    unfold F_X0_countChances_B39
    refine ok_ite (fun h_19 => ?_) (fun h_20 => ?_)
    · exact ok_some (lp_inr (hs_17))
    · refine ok_ite (fun h_21 => ?_) (fun h_22 => ?_)
      · unfold F_X0_countChances_70
        exact ok_some (lp_inl ⟨rfl, hs_17, (up_nn hn_18 (ge_t h_20))⟩ (up_t (ge_t h_20)))
      · refine ok_b1 (T_X11_cell sh76 hs_17.1) (fun v_23 _ => ?_)
        refine ok_b1 (ok_tr hs_17 (T_X0_countChance hs_17.1)) (fun s_25 (hs_26 : RC true s s_25) => ?_)
        unfold F_X0_countChances_70
        exact ok_some (lp_inl ⟨rfl, hs_26, (up_nn hn_18 (ge_t h_20))⟩ (up_t (ge_t h_20)))
  · refine ok_ite (fun h_27 => ?_) (fun h_28 => ?_)
    · unfold F_X0_countChances_30
      refine ok_nn (idx_ok (by decide) hn_9 h_11) ?_
      extract_lets +onlyGivenNames s_29
      have hs_30 : RC true s s_29 := (RC_mw hs_8 (by decide))
      clear_value s_29
      exact ok_some (lp_inl ⟨rfl, hs_30, (up_nn hn_9 (ge_t h_11))⟩ (up_t (ge_t h_11)))
    · unfold F_X0_countChances_30
      refine ok_nn (idx_ok (by decide) hn_9 h_11) ?_
      extract_lets +onlyGivenNames s_31
      have hs_32 : RC true s s_31 := (RC_mw hs_8 (by decide))
      clear_value s_31
      exact ok_some (lp_inl ⟨rfl, hs_32, (up_nn hn_9 (ge_t h_11))⟩ (up_t (ge_t h_11)))
theorem T_X0_likeliest {a1 : Int32} {s : mG} (hI : IC s) : ok (F_X0_likeliest a1 s) (fun τ => RC true s τ.2) := by
  have hR : RC true s s := RC_refl hI
  unfold F_X0_likeliest
  refine ok_b1 (ok_tr hR (T_X0_countChances hR.1)) (fun s_1 (hs_2 : RC true s s_1) => ?_)
  unfold F_X0_likeliest_L9
  refine ok_whl (fun v => a1 = v.1 ∧ RC true s v.2.2.2 ∧ ¬ v.2.2.1 < 0) (fun v => mUp v.2.2.1) ⟨rfl, hs_2, nn1⟩ (fun v hv => ?_)
  obtain ⟨x_6, x_7, x_8, s_9⟩ := v
  obtain ⟨rfl, rhs_10, rhn_11⟩ := hv
  have hs_10 : RC true s s_9 := rhs_10
  have hn_11 : ¬ x_8 < 0 := rhn_11
  show ok (F_X0_likeliest_B9 a1 x_7 x_8 s_9) _
  unfold F_X0_likeliest_B9
  refine ok_ite (fun h_12 => ?_) (fun h_13 => ?_)
  · refine ok_ite (fun h_14 => ?_) (fun h_15 => ?_)
    · exact ok_some (lp_inr (hs_10))
    · refine ok_b1 (T_X11_cell sh75 hs_10.1) (fun v_16 _ => ?_)
      exact ok_some (lp_inr (hs_10))
  · refine ok_b1 (T_X11_cell sh75 hs_10.1) (fun v_18 _ => ?_)
    refine ok_b1 (T_X11_cell sh75 hs_10.1) (fun v_20 _ => ?_)
    refine ok_ite (fun h_22 => ?_) (fun h_23 => ?_)
    · unfold F_X0_likeliest_47
      exact ok_some (lp_inl ⟨rfl, hs_10, (up_nn hn_11 (le_t h_13 (ic_t hs_10.1)))⟩ (up_t (le_t h_13 (ic_t hs_10.1))))
    · unfold F_X0_likeliest_47
      exact ok_some (lp_inl ⟨rfl, hs_10, (up_nn hn_11 (le_t h_13 (ic_t hs_10.1)))⟩ (up_t (le_t h_13 (ic_t hs_10.1))))
theorem T_X0_chanceWithin {s : mG} {a1 : Int32} {a2 : Int32} (hb : a2.toInt < 2147483647) (hI : IC s) : ok (F_X0_chanceWithin s a1 a2) PT := by
  have hR : RC true s s := RC_refl hI
  unfold F_X0_chanceWithin
  unfold F_X0_chanceWithin_L5
  refine ok_whl (fun v => a2 = v.1) (fun v => mUp v.2.2) rfl (fun v hv => ?_)
  obtain ⟨x_2, x_3, x_4⟩ := v
  obtain rfl := hv
  show ok (F_X0_chanceWithin_B5 s a2 x_3 x_4) _
  unfold F_X0_chanceWithin_B5
  refine ok_ite (fun h_5 => ?_) (fun h_6 => ?_)
  · exact ok_some (lp_inr (trivial))
  · refine ok_b1 (T_X11_cell sh75 hR.1) (fun v_7 _ => ?_)
    exact ok_some (lp_inl rfl (up_t (le_t h_6 hb)))
/-! X0_spanEdge: by hand -/
theorem t_nlt {x y : Int32} (h : ¬ y < x) : x.toInt ≤ y.toInt := by
  rw [Int32.lt_iff_toInt_lt] at h
  omega
theorem T_X0_spanEdge {a1 a2 : Int32} {s : mG} (hI : IC s) : ok (F_X0_spanEdge a1 a2 s) (fun τ => RC true s τ.2) := by
  have hR : RC true s s := RC_refl hI
  unfold F_X0_spanEdge
  refine ok_b1 (ok_tr hR (T_X0_countChances hR.1)) (fun s2 (hs2 : RC true s s2) => ?_)
  have hm := ic_lt hs2.1
  generalize s2.1 2 3 = n at hm ⊢
  unfold F_X0_spanEdge_L19
  refine ok_whl (fun v => n = v.2.2.1 ∧ RC true s v.2.2.2.2 ∧ 0 ≤ v.2.2.2.1.toInt) (fun v => mUp v.2.2.2.1) ⟨rfl, hs2, show 0 ≤ (ci 0).toInt by decide⟩ (fun v hv => ?_)
  obtain ⟨x1, x2, x3, x4, s3⟩ := v
  obtain ⟨rfl, rs3, h0⟩ := hv
  have hs3 : RC true s s3 := rs3
  show ok (F_X0_spanEdge_B19 x1 x2 n x4 s3) _
  unfold F_X0_spanEdge_B19
  refine ok_ite (fun h => ?_) (fun h => ?_)
  · exact ok_some (lp_inr hs3)
  · have h4 := t_nlt h
    replace h0 : 0 ≤ x4.toInt := h0
    unfold F_X0_spanEdge_L28
    refine ok_whl (fun v => n = v.2.2.1 ∧ x4 = v.2.2.2.1 ∧ RC true s v.2.2.2.2.2 ∧ 0 ≤ v.2.2.2.2.1.toInt ∧ v.2.2.2.2.1.toInt ≤ 13) (fun v => mUp v.2.2.2.2.1) ⟨rfl, rfl, hs3, show 0 ≤ (ci 0).toInt by decide, show (ci 0).toInt ≤ 13 by decide⟩ (fun v hv => ?_)
    obtain ⟨y1, y2, y3, y4, y5, s4⟩ := v
    obtain ⟨rfl, rfl, rs4, g0, g1⟩ := hv
    have hs4 : RC true s s4 := rs4
    replace g0 : 0 ≤ y5.toInt := g0
    replace g1 : y5.toInt ≤ 13 := g1
    show ok (F_X0_spanEdge_B28 y1 y2 n x4 y5 s4) _
    unfold F_X0_spanEdge_B28
    have e : (y5 + x4).toInt = y5.toInt + x4.toInt := t_add (by omega) (by omega)
    refine ok_ite (fun k => ?_) (fun k => ?_)
    · exact ok_some (lp_inr (lp_inl ⟨rfl, hs4, show 0 ≤ (x4 + ci 1).toInt by rw [t_up (by omega)]; omega⟩ (up_t (by omega))))
    · have k2 := t_nlt k
      rw [e] at k2
      refine ok_b1 (T_X0_chanceWithin (by rw [e]; omega) hs4.1) (fun v6 _ => ?_)
      refine ok_ite (fun _ => ?_) (fun _ => ?_)
      · exact ok_some (lp_inl ⟨rfl, rfl, hs4, show 0 ≤ (y5 + ci 1).toInt by rw [t_up (by omega)]; omega, show (y5 + ci 1).toInt ≤ 13 by rw [t_up (by omega)]; omega⟩ (up_t (by omega)))
      · refine ok_ite (fun _ => ?_) (fun _ => ?_)
        · exact ok_some (lp_inr (lp_inr hs4))
        · exact ok_some (lp_inr (lp_inr hs4))
theorem T_X0_amongCounted {a1 : Int32} {a2 : Int32} {s : mG} (hI : IC s) : ok (F_X0_amongCounted a1 a2 s) (fun τ => RC true s τ.2) := by
  have hR : RC true s s := RC_refl hI
  unfold F_X0_amongCounted
  refine ok_b1 (ok_tr hR (T_X0_countChances hR.1)) (fun s_1 (hs_2 : RC true s s_1) => ?_)
  refine ok_b1 (T_X11_cell sh76 hs_2.1) (fun v_3 _ => ?_)
  refine ok_b1 (T_X11_cell sh75 hs_2.1) (fun v_5 _ => ?_)
  extract_lets +onlyGivenNames v_7
  clear_value v_7
  refine ok_b1 (T_X11_cell sh75 hs_2.1) (fun v_8 _ => ?_)
  extract_lets +onlyGivenNames v_10
  clear_value v_10
  refine ok_ite (fun h_11 => ?_) (fun h_12 => ?_)
  · exact ok_some hs_2
  · refine ok_nn (lgc_ne h_12) ?_
    extract_lets +onlyGivenNames v_13
    clear_value v_13
    exact ok_some hs_2
theorem T_X0_emptyChance {a1 : Int32} {s : mG} (hI : IC s) : ok (F_X0_emptyChance a1 s) (fun τ => RC true s τ.2) := by
  have hR : RC true s s := RC_refl hI
  unfold F_X0_emptyChance
  refine ok_b1 (ok_tr hR (T_X0_weighAll hR.1)) (fun s_1 (hs_2 : RC true s s_1) => ?_)
  unfold F_X0_emptyChance_L9
  refine ok_whl (fun v => a1 = v.1 ∧ RC true s v.2.2.2 ∧ ¬ v.2.2.1 < 0) (fun v => mUp v.2.2.1) ⟨rfl, hs_2, nn0⟩ (fun v hv => ?_)
  obtain ⟨x_6, x_7, x_8, s_9⟩ := v
  obtain ⟨rfl, rhs_10, rhn_11⟩ := hv
  have hs_10 : RC true s s_9 := rhs_10
  have hn_11 : ¬ x_8 < 0 := rhn_11
  show ok (F_X0_emptyChance_B9 a1 x_7 x_8 s_9) _
  unfold F_X0_emptyChance_B9
  refine ok_ite (fun h_12 => ?_) (fun h_13 => ?_)
  · exact ok_some (lp_inr (hs_10))
  · refine ok_b1 (T_X10_at isT_2 hs_10.1) (fun v_14 _ => ?_)
    refine ok_ite (fun h_16 => ?_) (fun h_17 => ?_)
    · refine ok_b1 (T_X11_cell sh76 hs_10.1) (fun v_18 _ => ?_)
      refine ok_b1 (T_X11_share hs_10.1) (fun v_20 _ => ?_)
      unfold F_X0_emptyChance_55
      exact ok_some (lp_inl ⟨rfl, hs_10, (up_nn hn_11 (ge_t h_13))⟩ (up_t (ge_t h_13)))
    · unfold F_X0_emptyChance_55
      exact ok_some (lp_inl ⟨rfl, hs_10, (up_nn hn_11 (ge_t h_13))⟩ (up_t (ge_t h_13)))
theorem T_X0_bestPair {a1 : Int32} {s : mG} (hI : IC s) : ok (F_X0_bestPair a1 s) (fun τ => RC true s τ.2) := by
  have hR : RC true s s := RC_refl hI
  unfold F_X0_bestPair
  refine ok_b1 (ok_tr hR (T_X0_weighAll hR.1)) (fun s_1 (hs_2 : RC true s s_1) => ?_)
  unfold F_X0_bestPair_L14
  refine ok_whl (fun v => a1 = v.1 ∧ RC true s v.2.2.2.2.2 ∧ ¬ v.2.2.2.2.1 < 0) (fun v => mUp v.2.2.2.2.1) ⟨rfl, hs_2, nn0⟩ (fun v hv => ?_)
  obtain ⟨x_14, x_15, x_16, x_17, x_18, s_19⟩ := v
  obtain ⟨rfl, rhs_20, rhn_21⟩ := hv
  have hs_20 : RC true s s_19 := rhs_20
  have hn_21 : ¬ x_18 < 0 := rhn_21
  show ok (F_X0_bestPair_B14 a1 x_15 x_16 x_17 x_18 s_19) _
  unfold F_X0_bestPair_B14
  refine ok_ite (fun h_22 => ?_) (fun h_23 => ?_)
  · refine ok_ite (fun h_24 => ?_) (fun h_25 => ?_)
    · exact ok_some (lp_inr (hs_20))
    · refine ok_ite (fun h_26 => ?_) (fun h_27 => ?_)
      · exact ok_some (lp_inr (hs_20))
      · exact ok_some (lp_inr (hs_20))
  · unfold F_X0_bestPair_L35
    refine ok_whl (fun v => a1 = v.1 ∧ x_18 = v.2.2.2.2.1 ∧ RC true s v.2.2.2.2.2.2) (fun v => mUp v.2.2.2.2.2.1) ⟨rfl, rfl, hs_20⟩ (fun v hv => ?_)
    obtain ⟨x_28, x_29, x_30, x_31, x_32, x_33, s_34⟩ := v
    obtain ⟨rfl, rfl, rhs_35⟩ := hv
    have hs_35 : RC true s s_34 := rhs_35
    show ok (F_X0_bestPair_B35 a1 x_29 x_30 x_31 x_18 x_33 s_34) _
    unfold F_X0_bestPair_B35
    refine ok_ite (fun h_36 => ?_) (fun h_37 => ?_)
    · exact ok_some (lp_inr (lp_inl ⟨rfl, hs_35, (up_nn hn_21 (ge_t h_23))⟩ (up_t (ge_t h_23))))
    · refine ok_b1 (T_X11_cell sh76 hs_35.1) (fun v_38 _ => ?_)
      refine ok_b1 (T_X11_cell sh76 hs_35.1) (fun v_40 _ => ?_)
      refine ok_b1 (T_X11_share hs_35.1) (fun v_42 _ => ?_)
      refine ok_ite (fun h_44 => ?_) (fun h_45 => ?_)
      · unfold F_X0_bestPair_90
        exact ok_some (lp_inl ⟨rfl, rfl, hs_35⟩ (up_t (ge_t h_37)))
      · unfold F_X0_bestPair_90
        exact ok_some (lp_inl ⟨rfl, rfl, hs_35⟩ (up_t (ge_t h_37)))
theorem T_X0_keylessOut {s : mG} (hI : IC s) : ok (F_X0_keylessOut s) (fun τ => RC true s τ.2) := by
  have hR : RC true s s := RC_refl hI
  unfold F_X0_keylessOut
  refine ok_b1 (ok_tr hR (T_X0_weighAll hR.1)) (fun s_1 (hs_2 : RC true s s_1) => ?_)
  unfold F_X0_keylessOut_L8
  refine ok_whl (fun v => RC true s v.2.2 ∧ ¬ v.2.1 < 0) (fun v => mUp v.2.1) ⟨hs_2, nn0⟩ (fun v hv => ?_)
  obtain ⟨x_6, x_7, s_8⟩ := v
  obtain ⟨rhs_9, rhn_10⟩ := hv
  have hs_9 : RC true s s_8 := rhs_9
  have hn_10 : ¬ x_7 < 0 := rhn_10
  show ok (F_X0_keylessOut_B8 x_6 x_7 s_8) _
  unfold F_X0_keylessOut_B8
  refine ok_ite (fun h_11 => ?_) (fun h_12 => ?_)
  · exact ok_some (lp_inr (hs_9))
  · refine ok_b1 (T_X10_at isT_2 hs_9.1) (fun v_13 _ => ?_)
    refine ok_ite (fun h_15 => ?_) (fun h_16 => ?_)
    · refine ok_b1 (T_X11_cell sh76 hs_9.1) (fun v_17 _ => ?_)
      extract_lets +onlyGivenNames v_19
      clear_value v_19
      unfold F_X0_keylessOut_52
      exact ok_some (lp_inl ⟨hs_9, (up_nn hn_10 (ge_t h_12))⟩ (up_t (ge_t h_12)))
    · unfold F_X0_keylessOut_52
      exact ok_some (lp_inl ⟨hs_9, (up_nn hn_10 (ge_t h_12))⟩ (up_t (ge_t h_12)))
theorem T_X1_bestVisit {a1 : Int32} {a2 : Int32} {a3 : Int32} {s : mG} (hI : IC s) : ok (F_X1_bestVisit a1 a2 a3 s) (fun τ => RC true s τ.2) := by
  have hR : RC true s s := RC_refl hI
  unfold F_X1_bestVisit
  refine ok_b1 (ok_tr hR (T_X3_face hR.1)) (fun s_1 (hs_2 : RC true s s_1) => ?_)
  unfold F_X1_bestVisit_L20
  refine ok_whl (fun v => a3 = v.1 ∧ RC true s v.2.2.2.2.2 ∧ ¬ v.2.2.2.2.1 < 0) (fun v => mUp v.2.2.2.2.1) ⟨rfl, hs_2, nn1⟩ (fun v hv => ?_)
  obtain ⟨x_10, x_11, x_12, x_13, x_14, s_15⟩ := v
  obtain ⟨rfl, rhs_16, rhn_17⟩ := hv
  have hs_16 : RC true s s_15 := rhs_16
  have hn_17 : ¬ x_14 < 0 := rhn_17
  show ok (F_X1_bestVisit_B20 a3 x_11 x_12 x_13 x_14 s_15) _
  unfold F_X1_bestVisit_B20
  refine ok_ite (fun h_18 => ?_) (fun h_19 => ?_)
  · refine ok_ite (fun h_20 => ?_) (fun h_21 => ?_)
    · exact ok_some (lp_inr (hs_16))
    · exact ok_some (lp_inr (hs_16))
  · refine ok_b1 (ok_tr hs_16 (T_X3_supposeHour hs_16.1)) (fun s_22 (hs_23 : RC true s s_22) => ?_)
    refine ok_b2 (ok_tr2 hs_23 (T_X3_tells hs_23.1)) (fun v_24 s_25 (hs_26 : RC true s s_25) => ?_)
    extract_lets +onlyGivenNames v_27
    clear_value v_27
    refine ok_b2 (ok_tr2 hs_26 (T_X3_tells hs_26.1)) (fun v_28 s_29 (hs_30 : RC true s s_29) => ?_)
    extract_lets +onlyGivenNames v_31
    clear_value v_31
    refine ok_ite (fun h_32 => ?_) (fun h_33 => ?_)
    · unfold F_X1_bestVisit_108
      exact ok_some (lp_inl ⟨rfl, hs_30, (up_nn hn_17 (ge_t h_19))⟩ (up_t (ge_t h_19)))
    · unfold F_X1_bestVisit_108
      exact ok_some (lp_inl ⟨rfl, hs_30, (up_nn hn_17 (ge_t h_19))⟩ (up_t (ge_t h_19)))
theorem T_X3_suppose {a1 : Int32} {a2 : Int32} {s : mG} (hI : IC s) : ok (F_X3_suppose a1 a2 s) (RC true s) := by
  have hR : RC true s s := RC_refl hI
  unfold F_X3_suppose
  refine ok_b1 (ok_tr hR (T_X11_put sh69 (by decide) hR.1)) (fun s_1 (hs_2 : RC true s s_1) => ?_)
  exact ok_some hs_2
theorem T_X1_stillOut {a1 : Int32} {a2 : Int32} {s : mG} (hI : IC s) : ok (F_X1_stillOut a1 a2 s) (fun τ => RC true s τ.2) := by
  have hR : RC true s s := RC_refl hI
  unfold F_X1_stillOut
  refine ok_b1 (ok_tr hR (T_X3_face hR.1)) (fun s_1 (hs_2 : RC true s s_1) => ?_)
  unfold F_X1_stillOut_L14
  refine ok_whl (fun v => a1 = v.1 ∧ a2 = v.2.1 ∧ RC true s v.2.2.2.2 ∧ ¬ v.2.2.2.1 < 0) (fun v => mUp v.2.2.2.1) ⟨rfl, rfl, hs_2, nn0⟩ (fun v hv => ?_)
  obtain ⟨x_9, x_10, x_11, x_12, s_13⟩ := v
  obtain ⟨rfl, rfl, rhs_14, rhn_15⟩ := hv
  have hs_14 : RC true s s_13 := rhs_14
  have hn_15 : ¬ x_12 < 0 := rhn_15
  show ok (F_X1_stillOut_B14 a1 a2 x_11 x_12 s_13) _
  unfold F_X1_stillOut_B14
  refine ok_ite (fun h_16 => ?_) (fun h_17 => ?_)
  · exact ok_some (lp_inr (hs_14))
  · refine ok_b1 (ok_tr hs_14 (T_X3_supposeHour hs_14.1)) (fun s_18 (hs_19 : RC true s s_18) => ?_)
    refine ok_b1 (T_X10_at isT_2 hs_19.1) (fun v_20 _ => ?_)
    refine ok_b1 (ok_tr hs_19 (T_X3_suppose hs_19.1)) (fun s_22 (hs_23 : RC true s s_22) => ?_)
    refine ok_b2 (ok_tr2 hs_23 (T_X3_tells hs_23.1)) (fun v_24 s_25 (hs_26 : RC true s s_25) => ?_)
    extract_lets +onlyGivenNames v_27
    clear_value v_27
    exact ok_some (lp_inl ⟨rfl, rfl, hs_26, (up_nn hn_15 (ge_t h_17))⟩ (up_t (ge_t h_17)))
theorem T_X2_isOut {hh : Nat} {s : mG} {a1 : Int32} (h_hh : isH hh) (hI : IC s) : ok (F_X2_isOut hh s a1) PB := by
  have hR : RC true s s := RC_refl hI
  unfold F_X2_isOut
  refine ok_b1 (T_X10_at (isH_t h_hh 0 (by decide)) hR.1) (fun v_1 _ => ?_)
  refine ok_ite (fun h_3 => ?_) (fun h_4 => ?_)
  · exact ok_some pb1
  · exact ok_some pb0
theorem T_X1_movesAt {a1 : Int32} {s : mG} (hI : IC s) : ok (F_X1_movesAt a1 s) (fun τ => RC true s τ.2) := by
  have hR : RC true s s := RC_refl hI
  unfold F_X1_movesAt
  unfold F_X1_movesAt_L4
  refine ok_whl (fun v => a1 = v.1 ∧ RC true s v.2.2.2 ∧ ¬ v.2.2.1 < 0) (fun v => mUp v.2.2.1) ⟨rfl, hR, nn0⟩ (fun v hv => ?_)
  obtain ⟨x_8, x_9, x_10, s_11⟩ := v
  obtain ⟨rfl, rhs_12, rhn_13⟩ := hv
  have hs_12 : RC true s s_11 := rhs_12
  have hn_13 : ¬ x_10 < 0 := rhn_13
  show ok (F_X1_movesAt_B4 a1 x_9 x_10 s_11) _
  unfold F_X1_movesAt_B4
  refine ok_ite (fun h_14 => ?_) (fun h_15 => ?_)
  · exact ok_some (lp_inr (hs_12))
  · refine ok_b1 (ok_tr hs_12 (T_X3_face hs_12.1)) (fun s_16 (hs_17 : RC true s s_16) => ?_)
    refine ok_b1 (ok_tr hs_17 (T_X3_suppose hs_17.1)) (fun s_18 (hs_19 : RC true s s_18) => ?_)
    refine ok_b1 (T_X2_isOut isH_1 hs_19.1) (fun v_20 (hv_21 : PB v_20) => ?_)
    refine ok_ite (fun h_22 => ?_) (fun h_23 => ?_)
    · unfold F_X1_movesAt_56
      refine ok_b2 (ok_tr2 hs_19 (T_X3_tells hs_19.1)) (fun v_24 s_25 (hs_26 : RC true s s_25) => ?_)
      exact ok_some (lp_inl ⟨rfl, hs_26, (up_nn hn_13 (ge_t h_15))⟩ (up_t (ge_t h_15)))
    · unfold F_X1_movesAt_56
      refine ok_b2 (ok_tr2 hs_19 (T_X3_tells hs_19.1)) (fun v_27 s_28 (hs_29 : RC true s s_28) => ?_)
      exact ok_some (lp_inl ⟨rfl, hs_29, (up_nn hn_13 (ge_t h_15))⟩ (up_t (ge_t h_15)))
theorem T_X1_movesNow {s : mG} (hI : IC s) : ok (F_X1_movesNow s) (fun τ => RC true s τ.2) := by
  have hR : RC true s s := RC_refl hI
  unfold F_X1_movesNow
  refine ok_b2 (ok_tr2 hR (T_X1_movesAt hR.1)) (fun v_1 s_2 (hs_3 : RC true s s_2) => ?_)
  exact ok_some hs_3
theorem T_X1_busiestClock {s : mG} (hI : IC s) : ok (F_X1_busiestClock s) (fun τ => RC true s τ.2) := by
  have hR : RC true s s := RC_refl hI
  unfold F_X1_busiestClock
  refine ok_b2 (ok_tr2 hR (T_X1_movesAt hR.1)) (fun v_1 s_2 (hs_3 : RC true s s_2) => ?_)
  unfold F_X1_busiestClock_L10
  refine ok_whl (fun v => RC true s v.2.2.2 ∧ ¬ v.2.2.1 < 0) (fun v => mUp v.2.2.1) ⟨hs_3, nn1⟩ (fun v hv => ?_)
  obtain ⟨x_6, x_7, x_8, s_9⟩ := v
  obtain ⟨rhs_10, rhn_11⟩ := hv
  have hs_10 : RC true s s_9 := rhs_10
  have hn_11 : ¬ x_8 < 0 := rhn_11
  show ok (F_X1_busiestClock_B10 x_6 x_7 x_8 s_9) _
  unfold F_X1_busiestClock_B10
  refine ok_ite (fun h_12 => ?_) (fun h_13 => ?_)
  · exact ok_some (lp_inr (hs_10))
  · refine ok_b2 (ok_tr2 hs_10 (T_X1_movesAt hs_10.1)) (fun v_14 s_15 (hs_16 : RC true s s_15) => ?_)
    refine ok_ite (fun h_17 => ?_) (fun h_18 => ?_)
    · unfold F_X1_busiestClock_34
      exact ok_some (lp_inl ⟨hs_16, (up_nn hn_11 (ge_t h_13))⟩ (up_t (ge_t h_13)))
    · unfold F_X1_busiestClock_34
      exact ok_some (lp_inl ⟨hs_16, (up_nn hn_11 (ge_t h_13))⟩ (up_t (ge_t h_13)))
end
end
/-! 54.b -/
section
noncomputable section
theorem T_X1_costOfTag {a1 : Int32} {a2 : Int32} {a3 : Int32} {s : mG} (hI : IC s) : ok (F_X1_costOfTag a1 a2 a3 s) (fun τ => RC true s τ.2) := by
  have hR : RC true s s := RC_refl hI
  unfold F_X1_costOfTag
  unfold F_X1_costOfTag_L6
  refine ok_whl (fun v => a1 = v.1 ∧ a2 = v.2.1 ∧ a3 = v.2.2.1 ∧ RC true s v.2.2.2.2.2 ∧ ¬ v.2.2.2.2.1 < 0) (fun v => mUp v.2.2.2.2.1) ⟨rfl, rfl, rfl, hR, nn0⟩ (fun v hv => ?_)
  obtain ⟨x_6, x_7, x_8, x_9, x_10, s_11⟩ := v
  obtain ⟨rfl, rfl, rfl, rhs_12, rhn_13⟩ := hv
  have hs_12 : RC true s s_11 := rhs_12
  have hn_13 : ¬ x_10 < 0 := rhn_13
  show ok (F_X1_costOfTag_B6 a1 a2 a3 x_9 x_10 s_11) _
  unfold F_X1_costOfTag_B6
  refine ok_ite (fun h_14 => ?_) (fun h_15 => ?_)
  · extract_lets +onlyGivenNames v_16
    clear_value v_16
    exact ok_some (lp_inr (hs_12))
  · refine ok_b1 (ok_tr hs_12 (T_X3_face hs_12.1)) (fun s_17 (hs_18 : RC true s s_17) => ?_)
    refine ok_b1 (ok_tr hs_18 (T_X3_suppose hs_18.1)) (fun s_19 (hs_20 : RC true s s_19) => ?_)
    refine ok_b2 (ok_tr2 hs_20 (T_X3_tells hs_20.1)) (fun v_21 s_22 (hs_23 : RC true s s_22) => ?_)
    exact ok_some (lp_inl ⟨rfl, rfl, rfl, hs_23, (up_nn hn_13 (ge_t h_15))⟩ (up_t (ge_t h_15)))
theorem T_X1_bestTag {a1 : Int32} {a2 : Int32} {s : mG} (hI : IC s) : ok (F_X1_bestTag a1 a2 s) (fun τ => RC true s τ.2) := by
  have hR : RC true s s := RC_refl hI
  unfold F_X1_bestTag
  refine ok_b2 (ok_tr2 hR (T_X1_costOfTag hR.1)) (fun v_1 s_2 (hs_3 : RC true s s_2) => ?_)
  unfold F_X1_bestTag_L14
  refine ok_whl (fun v => a1 = v.1 ∧ a2 = v.2.1 ∧ RC true s v.2.2.2.2.2 ∧ ¬ v.2.2.2.2.1 < 0) (fun v => mUp v.2.2.2.2.1) ⟨rfl, rfl, hs_3, nn1⟩ (fun v hv => ?_)
  obtain ⟨x_6, x_7, x_8, x_9, x_10, s_11⟩ := v
  obtain ⟨rfl, rfl, rhs_12, rhn_13⟩ := hv
  have hs_12 : RC true s s_11 := rhs_12
  have hn_13 : ¬ x_10 < 0 := rhn_13
  show ok (F_X1_bestTag_B14 a1 a2 x_8 x_9 x_10 s_11) _
  unfold F_X1_bestTag_B14
  refine ok_ite (fun h_14 => ?_) (fun h_15 => ?_)
  · exact ok_some (lp_inr (hs_12))
  · refine ok_b2 (ok_tr2 hs_12 (T_X1_costOfTag hs_12.1)) (fun v_16 s_17 (hs_18 : RC true s s_17) => ?_)
    refine ok_ite (fun h_19 => ?_) (fun h_20 => ?_)
    · unfold F_X1_bestTag_45
      exact ok_some (lp_inl ⟨rfl, rfl, hs_18, (up_nn hn_13 (le_t h_15 (by decide)))⟩ (up_t (le_t h_15 (by decide))))
    · unfold F_X1_bestTag_45
      exact ok_some (lp_inl ⟨rfl, rfl, hs_18, (up_nn hn_13 (le_t h_15 (by decide)))⟩ (up_t (le_t h_15 (by decide))))
theorem T_X1_likeliestToCarry {s : mG} (hI : IC s) : ok (F_X1_likeliestToCarry s) (fun τ => RC true s τ.2) := by
  have hR : RC true s s := RC_refl hI
  unfold F_X1_likeliestToCarry
  unfold F_X1_likeliestToCarry_L6
  refine ok_whl (fun v => RC true s v.2.2.2 ∧ ¬ v.2.2.1 < 0) (fun v => mUp v.2.2.1) ⟨hR, nn0⟩ (fun v hv => ?_)
  obtain ⟨x_4, x_5, x_6, s_7⟩ := v
  obtain ⟨rhs_8, rhn_9⟩ := hv
  have hs_8 : RC true s s_7 := rhs_8
  have hn_9 : ¬ x_6 < 0 := rhn_9
  show ok (F_X1_likeliestToCarry_B6 x_4 x_5 x_6 s_7) _
  unfold F_X1_likeliestToCarry_B6
  refine ok_ite (fun h_10 => ?_) (fun h_11 => ?_)
  · exact ok_some (lp_inr (hs_8))
  · refine ok_b1 (ok_tr hs_8 (T_X3_face hs_8.1)) (fun s_12 (hs_13 : RC true s s_12) => ?_)
    refine ok_b2 (ok_tr2 hs_13 (T_X3_tells hs_13.1)) (fun v_14 s_15 (hs_16 : RC true s s_15) => ?_)
    refine ok_ite (fun h_17 => ?_) (fun h_18 => ?_)
    · unfold F_X1_likeliestToCarry_49
      exact ok_some (lp_inl ⟨hs_16, (up_nn hn_9 (ge_t h_11))⟩ (up_t (ge_t h_11)))
    · unfold F_X1_likeliestToCarry_49
      exact ok_some (lp_inl ⟨hs_16, (up_nn hn_9 (ge_t h_11))⟩ (up_t (ge_t h_11)))
/-! X10_put: by hand -/
theorem T_X1_countGoings {a1 : Int32} {s : mG} (hI : IC s) : ok (F_X1_countGoings a1 s) (RC true s) := by
  have hR : RC true s s := RC_refl hI
  unfold F_X1_countGoings
  unfold F_X1_countGoings_L7
  refine ok_whl (fun v => a1 = v.1 ∧ RC true s v.2.2.2.2 ∧ ¬ v.2.2.2.1 < 0) (fun v => mUp v.2.2.2.1) ⟨rfl, hR, nn0⟩ (fun v hv => ?_)
  obtain ⟨x_11, x_12, x_13, x_14, s_15⟩ := v
  obtain ⟨rfl, rhs_16, rhn_17⟩ := hv
  have hs_16 : RC true s s_15 := rhs_16
  have hn_17 : ¬ x_14 < 0 := rhn_17
  show ok (F_X1_countGoings_B7 a1 x_12 x_13 x_14 s_15) _
  unfold F_X1_countGoings_B7
  refine ok_ite (fun h_18 => ?_) (fun h_19 => ?_)
  · refine ok_b1 (ok_tr hs_16 (T_X10_put isT_78 hs_16.1)) (fun s_20 (hs_21 : RC true s s_20) => ?_)
    refine ok_b1 (ok_tr hs_21 (T_X10_put isT_78 hs_21.1)) (fun s_22 (hs_23 : RC true s s_22) => ?_)
    exact ok_some (lp_inr (hs_23))
  · refine ok_b1 (T_X2_isOut isH_1 hs_16.1) (fun v_24 (hv_25 : PB v_24) => ?_)
    refine ok_ite (fun h_26 => ?_) (fun h_27 => ?_)
    · refine ok_b1 (ok_tr hs_16 (T_X3_face hs_16.1)) (fun s_28 (hs_29 : RC true s s_28) => ?_)
      refine ok_b1 (ok_tr hs_29 (T_X3_suppose hs_29.1)) (fun s_30 (hs_31 : RC true s s_30) => ?_)
      refine ok_b2 (ok_tr2 hs_31 (T_X3_tells hs_31.1)) (fun v_32 s_33 (hs_34 : RC true s s_33) => ?_)
      refine ok_b2 (ok_tr2 hs_34 (T_X3_tells hs_34.1)) (fun v_35 s_36 (hs_37 : RC true s s_36) => ?_)
      extract_lets +onlyGivenNames v_38
      clear_value v_38
      unfold F_X1_countGoings_92
      exact ok_some (lp_inl ⟨rfl, hs_37, (up_nn hn_17 (ge_t h_19))⟩ (up_t (ge_t h_19)))
    · unfold F_X1_countGoings_92
      exact ok_some (lp_inl ⟨rfl, hs_16, (up_nn hn_17 (ge_t h_19))⟩ (up_t (ge_t h_19)))
theorem T_X1_restFrom {s : mG} {a1 : Int32} {a2 : Int32} {a3 : Int32} {a4 : Int32} (hI : IC s) : ok (F_X1_restFrom s a1 a2 a3 a4) PT := by
  have hR : RC true s s := RC_refl hI
  unfold F_X1_restFrom
  refine ok_ite (fun h_1 => ?_) (fun h_2 => ?_)
  · refine ok_b1 (T_X10_at isT_80 hR.1) (fun v_3 _ => ?_)
    refine ok_ite (fun h_5 => ?_) (fun h_6 => ?_)
    · unfold F_X1_restFrom_30
      exact ok_some trivial
    · unfold F_X1_restFrom_30
      exact ok_some trivial
  · exact ok_some trivial
theorem T_X10_isFull {t : Nat} {s : mG} (h_t : isT t) (hI : IC s) : ok (F_X10_isFull t s) (fun v => PB v ∧ (v = 0 → s.1 t 3 < s.1 t 0)) := by
  unfold F_X10_isFull
  refine ok_ite (fun h => ?_) (fun h => ?_)
  · exact ok_some ⟨pb0, fun _ => h⟩
  · exact ok_some ⟨pb1, fun q => absurd q (by decide)⟩
theorem hv_full {t : Nat} {s : mG} {v : Int32} (h : PB v ∧ (v = 0 → s.1 t 3 < s.1 t 0)) (hv : v = 0) : s.1 t 3 < s.1 t 0 := h.2 hv
theorem t_nle {x y : Int32} (h : ¬ y ≤ x) : x < y := by
  rw [Int32.le_iff_toInt_le] at h
  rw [Int32.lt_iff_toInt_lt]
  omega
theorem rows_add {t : Nat} {s : mG} (hI : IC s) (h : s.1 t 3 < s.1 t 0) : t = 2 → s.1 t 3 + ci 1 ≤ ci 12 := by
  intro q
  subst q
  rw [hI.1] at h
  have h2 := lt_t h
  rw [Int32.lt_iff_toInt_lt, show (ci 12).toInt = 12 by decide] at h
  rw [Int32.le_iff_toInt_le, show (ci 12).toInt = 12 by decide, t_up h2]
  omega
theorem rows_copy {t : Nat} {s : mG} {x : Int32} (hI : IC s) : t = 2 → imin x (s.1 t 0) ≤ ci 12 := by
  intro q
  subst q
  rw [hI.1]
  unfold imin
  by_cases h : ci 12 < x
  · rw [if_pos h]; exact Int32.le_refl _
  · rw [if_neg h]
    rw [Int32.lt_iff_toInt_lt] at h
    rw [Int32.le_iff_toInt_le]
    omega
theorem T_X10_add {t : Nat} {s : mG} (h_t : isT t) (hI : IC s) : ok (F_X10_add t s) (fun τ => RC true s τ.2) := by
  have hR : RC true s s := RC_refl hI
  unfold F_X10_add
  refine ok_b1 (T_X10_isFull h_t hR.1) (fun v_1 (hv_2 : PB v_1 ∧ (v_1 = 0 → s.1 t 3 < s.1 t 0)) => ?_)
  refine ok_ite (fun h_3 => ?_) (fun h_4 => ?_)
  · extract_lets +onlyGivenNames s_5
    have hs_6 : RC true s s_5 := (RC_rows hR h_t (rows_add hI (hv_full hv_2 h_3)))
    clear_value s_5
    exact ok_some hs_6
  · exact ok_some hR
theorem T_X10_clear {t : Nat} {s : mG} (h_t : isT t) (hI : IC s) : ok (F_X10_clear t s) (RC true s) := by
  have hR : RC true s s := RC_refl hI
  unfold F_X10_clear
  extract_lets +onlyGivenNames s_1
  have hs_2 : RC true s s_1 := (RC_rows hR h_t (fun _ => le_z12))
  clear_value s_1
  exact ok_some hs_2
theorem T_X1_plan {a1 : Int32} {s : mG} (hI : IC s) : ok (F_X1_plan a1 s) (RC true s) := by
  have hR : RC true s s := RC_refl hI
  unfold F_X1_plan
  refine ok_b1 (ok_tr hR (T_X10_clear isT_78 hR.1)) (fun s_1 (hs_2 : RC true s s_1) => ?_)
  refine ok_b1 (ok_tr hs_2 (T_X10_clear isT_80 hs_2.1)) (fun s_3 (hs_4 : RC true s s_3) => ?_)
  unfold F_X1_plan_L16
  refine ok_whl (fun v => a1 = v.1 ∧ RC true s v.2.2 ∧ ¬ v.2.1 < 0) (fun v => mUp v.2.1) ⟨rfl, hs_4, nn0⟩ (fun v hv => ?_)
  obtain ⟨x_10, x_11, s_12⟩ := v
  obtain ⟨rfl, rhs_13, rhn_14⟩ := hv
  have hs_13 : RC true s s_12 := rhs_13
  have hn_14 : ¬ x_11 < 0 := rhn_14
  show ok (F_X1_plan_B16 a1 x_11 s_12) _
  unfold F_X1_plan_B16
  refine ok_ite (fun h_15 => ?_) (fun h_16 => ?_)
  · refine ok_b1r ?_
    unfold F_X1_plan_L52
    refine ok_whl (fun v => a1 = v.1 ∧ RC true s v.2.2) (fun v => mDn v.2.1) ⟨rfl, hs_13⟩ (fun v hv => ?_)
    obtain ⟨x_27, x_28, s_29⟩ := v
    obtain ⟨rfl, rhs_30⟩ := hv
    have hs_30 : RC true s s_29 := rhs_30
    show ok (F_X1_plan_B52 a1 x_28 s_29) _
    unfold F_X1_plan_B52
    refine ok_ite (fun h_31 => ?_) (fun h_32 => ?_)
    · exact ok_some (lp_inr (hs_30))
    · unfold F_X1_plan_L58
      refine ok_whl (fun v => a1 = v.1 ∧ x_28 = v.2.1 ∧ RC true s v.2.2.2 ∧ ¬ v.2.2.1 < 0) (fun v => mUp v.2.2.1) ⟨rfl, rfl, hs_30, nn0⟩ (fun v hv => ?_)
      obtain ⟨x_33, x_34, x_35, s_36⟩ := v
      obtain ⟨rfl, rfl, rhs_37, rhn_38⟩ := hv
      have hs_37 : RC true s s_36 := rhs_37
      have hn_38 : ¬ x_35 < 0 := rhn_38
      show ok (F_X1_plan_B58 a1 x_28 x_35 s_36) _
      unfold F_X1_plan_B58
      refine ok_ite (fun h_39 => ?_) (fun h_40 => ?_)
      · exact ok_some (lp_inr (lp_inl ⟨rfl, hs_37⟩ (dn_t h_32)))
      · refine ok_b1 (T_X1_restFrom hs_37.1) (fun v_41 _ => ?_)
        refine ok_b1 (T_X1_restFrom hs_37.1) (fun v_43 _ => ?_)
        refine ok_b1 (T_X10_at isT_78 hs_37.1) (fun v_45 _ => ?_)
        refine ok_b1 (ok_tr hs_37 (T_X10_put isT_80 hs_37.1)) (fun s_47 (hs_48 : RC true s s_47) => ?_)
        exact ok_some (lp_inl ⟨rfl, rfl, hs_48, (up_nn hn_38 (ge_t h_40))⟩ (up_t (ge_t h_40)))
  · refine ok_b2 (ok_tr2 hs_13 (T_X10_add isT_78 hs_13.1)) (fun v_49 s_50 (hs_51 : RC true s s_50) => ?_)
    refine ok_b2 (ok_tr2 hs_51 (T_X10_add isT_80 hs_51.1)) (fun v_52 s_53 (hs_54 : RC true s s_53) => ?_)
    refine ok_b1 (ok_tr hs_54 (T_X1_countGoings hs_54.1)) (fun s_55 (hs_56 : RC true s s_55) => ?_)
    exact ok_some (lp_inl ⟨rfl, hs_56, (up_nn hn_14 (ge_t h_16))⟩ (up_t (ge_t h_16)))
theorem T_X1_mostSeen {s : mG} (hI : IC s) : ok (F_X1_mostSeen s) PT := by
  have hR : RC true s s := RC_refl hI
  unfold F_X1_mostSeen
  refine ok_b1 (T_X10_at isT_80 hR.1) (fun v_1 _ => ?_)
  refine ok_b1 (T_X10_at isT_80 hR.1) (fun v_3 _ => ?_)
  exact ok_some trivial
theorem T_X1_doorAt {s : mG} {a1 : Int32} {a2 : Int32} (hI : IC s) : ok (F_X1_doorAt s a1 a2) PT := by
  have hR : RC true s s := RC_refl hI
  unfold F_X1_doorAt
  refine ok_b1 (T_X10_at isT_80 hR.1) (fun v_1 _ => ?_)
  refine ok_b1 (T_X10_at isT_80 hR.1) (fun v_3 _ => ?_)
  refine ok_ite (fun h_5 => ?_) (fun h_6 => ?_)
  · unfold F_X1_doorAt_26
    unfold F_X1_doorAt_L30
    refine ok_whl (fun v => a1 = v.1 ∧ a2 = v.2.1 ∧ ¬ v.2.2.2 < 0) (fun v => mUp v.2.2.2) ⟨rfl, rfl, nn1⟩ (fun v hv => ?_)
    obtain ⟨x_9, x_10, x_11, x_12⟩ := v
    obtain ⟨rfl, rfl, rhn_13⟩ := hv
    have hn_13 : ¬ x_12 < 0 := rhn_13
    show ok (F_X1_doorAt_B30 s a1 a2 x_11 x_12) _
    unfold F_X1_doorAt_B30
    refine ok_ite (fun h_14 => ?_) (fun h_15 => ?_)
    · refine ok_b1r ?_
      unfold F_X1_doorAt_76
      exact ok_some trivial
    · refine ok_ite (fun h_16 => ?_) (fun h_17 => ?_)
      · refine ok_b1r ?_
        unfold F_X1_doorAt_76
        exact ok_some trivial
      · refine ok_b1 (T_X1_restFrom hR.1) (fun v_18 _ => ?_)
        refine ok_b1 (T_X1_restFrom hR.1) (fun v_20 _ => ?_)
        refine ok_ite (fun h_22 => ?_) (fun h_23 => ?_)
        · unfold F_X1_doorAt_69
          exact ok_some (lp_inl ⟨rfl, rfl, (up_nn hn_13 (ge_t h_17))⟩ (up_t (ge_t h_17)))
        · unfold F_X1_doorAt_69
          exact ok_some (lp_inl ⟨rfl, rfl, (up_nn hn_13 (ge_t h_17))⟩ (up_t (ge_t h_17)))
  · unfold F_X1_doorAt_26
    unfold F_X1_doorAt_L30
    refine ok_whl (fun v => a1 = v.1 ∧ a2 = v.2.1 ∧ ¬ v.2.2.2 < 0) (fun v => mUp v.2.2.2) ⟨rfl, rfl, nn1⟩ (fun v hv => ?_)
    obtain ⟨x_24, x_25, x_26, x_27⟩ := v
    obtain ⟨rfl, rfl, rhn_28⟩ := hv
    have hn_28 : ¬ x_27 < 0 := rhn_28
    show ok (F_X1_doorAt_B30 s a1 a2 x_26 x_27) _
    unfold F_X1_doorAt_B30
    refine ok_ite (fun h_29 => ?_) (fun h_30 => ?_)
    · refine ok_b1r ?_
      unfold F_X1_doorAt_76
      exact ok_some trivial
    · refine ok_ite (fun h_31 => ?_) (fun h_32 => ?_)
      · refine ok_b1r ?_
        unfold F_X1_doorAt_76
        exact ok_some trivial
      · refine ok_b1 (T_X1_restFrom hR.1) (fun v_33 _ => ?_)
        refine ok_b1 (T_X1_restFrom hR.1) (fun v_35 _ => ?_)
        refine ok_ite (fun h_37 => ?_) (fun h_38 => ?_)
        · unfold F_X1_doorAt_69
          exact ok_some (lp_inl ⟨rfl, rfl, (up_nn hn_28 (ge_t h_32))⟩ (up_t (ge_t h_32)))
        · unfold F_X1_doorAt_69
          exact ok_some (lp_inl ⟨rfl, rfl, (up_nn hn_28 (ge_t h_32))⟩ (up_t (ge_t h_32)))
theorem T_X10_copyFrom {t : Nat} {a1 : Nat} {s : mG} (h_t : isT t) (h_a1 : isT a1) (hI : IC s) : ok (F_X10_copyFrom t a1 s) (RC true s) := by
  have hR : RC true s s := RC_refl hI
  unfold F_X10_copyFrom
  extract_lets +onlyGivenNames s_1
  have hs_2 : RC true s s_1 := (RC_rows hR h_t (rows_copy hI))
  clear_value s_1
  extract_lets +onlyGivenNames v_3
  clear_value v_3
  unfold F_X10_copyFrom_L27
  refine ok_whl (fun v => v_3 = v.1 ∧ RC true s v.2.2 ∧ ¬ v.2.1 < 0) (fun v => mUp v.2.1) ⟨rfl, hs_2, nn0⟩ (fun v hv => ?_)
  obtain ⟨x_5, x_6, s_7⟩ := v
  obtain ⟨rfl, rhs_8, rhn_9⟩ := hv
  have hs_8 : RC true s s_7 := rhs_8
  have hn_9 : ¬ x_6 < 0 := rhn_9
  show ok (F_X10_copyFrom_B27 t a1 v_3 x_6 s_7) _
  unfold F_X10_copyFrom_B27
  refine ok_ite (fun h_10 => ?_) (fun h_11 => ?_)
  · exact ok_some (lp_inr (hs_8))
  · refine ok_ite (fun h_12 => ?_) (fun h_13 => ?_)
    · exact ok_some (lp_inr (hs_8))
    · refine ok_ite (fun h_14 => ?_) (fun h_15 => ?_)
      · exact ok_some (lp_inr (hs_8))
      · refine ok_nn (idx_ok (m_alen_lt _) hn_9 h_15) ?_
        refine ok_nn (idx_ok (m_alen_lt _) hn_9 h_13) ?_
        extract_lets +onlyGivenNames s_16
        have hs_17 : RC true s s_16 := (RC_mt hs_8 h_t)
        clear_value s_16
        exact ok_some (lp_inl ⟨rfl, hs_17, (up_nn hn_9 (ge_t h_15))⟩ (up_t (ge_t h_15)))
theorem T_X2_copyFrom {hh : Nat} {a1 : Nat} {s : mG} (h_hh : isH hh) (h_a1 : isH a1) (hI : IC s) : ok (F_X2_copyFrom hh a1 s) (RC true s) := by
  have hR : RC true s s := RC_refl hI
  unfold F_X2_copyFrom
  refine ok_b1 (ok_tr hR (T_X10_copyFrom (isH_t h_hh 0 (by decide)) (isH_t h_a1 0 (by decide)) hR.1)) (fun s_1 (hs_2 : RC true s s_1) => ?_)
  refine ok_b1 (ok_tr hs_2 (T_X10_copyFrom (isH_t h_hh 1 (by decide)) (isH_t h_a1 1 (by decide)) hs_2.1)) (fun s_3 (hs_4 : RC true s s_3) => ?_)
  refine ok_b1 (ok_tr hs_4 (T_X10_copyFrom (isH_t h_hh 2 (by decide)) (isH_t h_a1 2 (by decide)) hs_4.1)) (fun s_5 (hs_6 : RC true s s_5) => ?_)
  refine ok_b1 (ok_tr hs_6 (T_X10_copyFrom (isH_t h_hh 3 (by decide)) (isH_t h_a1 3 (by decide)) hs_6.1)) (fun s_7 (hs_8 : RC true s s_7) => ?_)
  refine ok_b1 (ok_tr hs_8 (T_X10_copyFrom (isH_t h_hh 4 (by decide)) (isH_t h_a1 4 (by decide)) hs_8.1)) (fun s_9 (hs_10 : RC true s s_9) => ?_)
  refine ok_b1 (ok_tr hs_10 (T_X10_copyFrom (isH_t h_hh 5 (by decide)) (isH_t h_a1 5 (by decide)) hs_10.1)) (fun s_11 (hs_12 : RC true s s_11) => ?_)
  refine ok_b1 (ok_tr hs_12 (T_X10_copyFrom (isH_t h_hh 6 (by decide)) (isH_t h_a1 6 (by decide)) hs_12.1)) (fun s_13 (hs_14 : RC true s s_13) => ?_)
  refine ok_b1 (ok_tr hs_14 (T_X10_copyFrom (isH_t h_hh 7 (by decide)) (isH_t h_a1 7 (by decide)) hs_14.1)) (fun s_15 (hs_16 : RC true s s_15) => ?_)
  extract_lets +onlyGivenNames s_17
  have hs_18 : RC true s s_17 := (RC_mh hs_16 h_hh)
  clear_value s_17
  extract_lets +onlyGivenNames s_19
  have hs_20 : RC true s s_19 := (RC_mh hs_18 h_hh)
  clear_value s_19
  extract_lets +onlyGivenNames s_21
  have hs_22 : RC true s s_21 := (RC_mh hs_20 h_hh)
  clear_value s_21
  extract_lets +onlyGivenNames s_23
  have hs_24 : RC true s s_23 := (RC_mh hs_22 h_hh)
  clear_value s_23
  exact ok_some hs_24
theorem T_X2_forgetSeenOf {hh : Nat} {a1 : Int32} {s : mG} (h_hh : isH hh) (hI : IC s) : ok (F_X2_forgetSeenOf hh a1 s) (RC true s) := by
  have hR : RC true s s := RC_refl hI
  unfold F_X2_forgetSeenOf
  unfold F_X2_forgetSeenOf_L2
  refine ok_whl (fun v => a1 = v.1 ∧ RC true s v.2.2 ∧ ¬ v.2.1 < 0) (fun v => mUp v.2.1) ⟨rfl, hR, nn0⟩ (fun v hv => ?_)
  obtain ⟨x_2, x_3, s_4⟩ := v
  obtain ⟨rfl, rhs_5, rhn_6⟩ := hv
  have hs_5 : RC true s s_4 := rhs_5
  have hn_6 : ¬ x_3 < 0 := rhn_6
  show ok (F_X2_forgetSeenOf_B2 hh a1 x_3 s_4) _
  unfold F_X2_forgetSeenOf_B2
  refine ok_ite (fun h_7 => ?_) (fun h_8 => ?_)
  · exact ok_some (lp_inr (hs_5))
  · refine ok_b1 (ok_tr hs_5 (T_X10_put (isH_t h_hh 0 (by decide)) hs_5.1)) (fun s_9 (hs_10 : RC true s s_9) => ?_)
    exact ok_some (lp_inl ⟨rfl, hs_10, (up_nn hn_6 (ge_t h_8))⟩ (up_t (ge_t h_8)))
theorem T_X2_addGuest {hh : Nat} {a1 : Int32} {a2 : Int32} {s : mG} (h_hh : isH hh) (hI : IC s) : ok (F_X2_addGuest hh a1 a2 s) (fun τ => RC true s τ.2) := by
  have hR : RC true s s := RC_refl hI
  unfold F_X2_addGuest
  refine ok_b2 (ok_tr2 hR (T_X10_add (isH_t h_hh 0 (by decide)) hR.1)) (fun v_1 s_2 (hs_3 : RC true s s_2) => ?_)
  refine ok_b1 (ok_tr hs_3 (T_X10_put (isH_t h_hh 0 (by decide)) hs_3.1)) (fun s_4 (hs_5 : RC true s s_4) => ?_)
  refine ok_b1 (ok_tr hs_5 (T_X10_put (isH_t h_hh 0 (by decide)) hs_5.1)) (fun s_6 (hs_7 : RC true s s_6) => ?_)
  refine ok_b1 (ok_tr hs_7 (T_X10_put (isH_t h_hh 0 (by decide)) hs_7.1)) (fun s_8 (hs_9 : RC true s s_8) => ?_)
  refine ok_b1 (ok_tr hs_9 (T_X10_put (isH_t h_hh 0 (by decide)) hs_9.1)) (fun s_10 (hs_11 : RC true s s_10) => ?_)
  refine ok_b1 (ok_tr hs_11 (T_X10_put (isH_t h_hh 0 (by decide)) hs_11.1)) (fun s_12 (hs_13 : RC true s s_12) => ?_)
  refine ok_b1 (ok_tr hs_13 (T_X2_forgetSeenOf h_hh hs_13.1)) (fun s_14 (hs_15 : RC true s s_14) => ?_)
  exact ok_some hs_15
theorem T_X2_forgetSeen {hh : Nat} {s : mG} (h_hh : isH hh) (hI : IC s) : ok (F_X2_forgetSeen hh s) (RC true s) := by
  have hR : RC true s s := RC_refl hI
  unfold F_X2_forgetSeen
  unfold F_X2_forgetSeen_L2
  refine ok_whl (fun v => RC true s v.2 ∧ ¬ v.1 < 0) (fun v => mUp v.1) ⟨hR, nn0⟩ (fun v hv => ?_)
  obtain ⟨x_2, s_3⟩ := v
  obtain ⟨rhs_4, rhn_5⟩ := hv
  have hs_4 : RC true s s_3 := rhs_4
  have hn_5 : ¬ x_2 < 0 := rhn_5
  show ok (F_X2_forgetSeen_B2 hh x_2 s_3) _
  unfold F_X2_forgetSeen_B2
  refine ok_ite (fun h_6 => ?_) (fun h_7 => ?_)
  · exact ok_some (lp_inr (hs_4))
  · refine ok_b1 (ok_tr hs_4 (T_X2_forgetSeenOf h_hh hs_4.1)) (fun s_8 (hs_9 : RC true s s_8) => ?_)
    exact ok_some (lp_inl ⟨hs_9, (up_nn hn_5 (ge_t h_7))⟩ (up_t (ge_t h_7)))
theorem T_X10_hasRow {t : Nat} {s : mG} {a1 : Int32} (h_t : isT t) (hI : IC s) : ok (F_X10_hasRow t s a1) PB := by
  have hR : RC true s s := RC_refl hI
  unfold F_X10_hasRow
  refine ok_ite (fun h_1 => ?_) (fun h_2 => ?_)
  · unfold F_X10_hasRow_16
    exact ok_some pb0
  · refine ok_ite (fun h_3 => ?_) (fun h_4 => ?_)
    · unfold F_X10_hasRow_16
      exact ok_some pb0
    · exact ok_some pb1
theorem T_X2_isGuest {hh : Nat} {s : mG} {a1 : Int32} (h_hh : isH hh) (hI : IC s) : ok (F_X2_isGuest hh s a1) PB := by
  have hR : RC true s s := RC_refl hI
  unfold F_X2_isGuest
  refine ok_b1 (T_X10_hasRow (isH_t h_hh 0 (by decide)) hR.1) (fun v_1 (hv_2 : PB v_1) => ?_)
  refine ok_pp hv_2 ?_
  exact ok_some hv_2
theorem T_X2_isSign {hh : Nat} {s : mG} {a1 : Int32} (h_hh : isH hh) (hI : IC s) : ok (F_X2_isSign hh s a1) PB := by
  have hR : RC true s s := RC_refl hI
  unfold F_X2_isSign
  refine ok_b1 (T_X10_hasRow (isH_t h_hh 4 (by decide)) hR.1) (fun v_1 (hv_2 : PB v_1) => ?_)
  refine ok_pp hv_2 ?_
  exact ok_some hv_2
theorem T_X2_keyOn {hh : Nat} {s : mG} {a1 : Int32} (h_hh : isH hh) (hI : IC s) : ok (F_X2_keyOn hh s a1) PT := by
  have hR : RC true s s := RC_refl hI
  unfold F_X2_keyOn
  unfold F_X2_keyOn_L2
  refine ok_whl (fun v => a1 = v.1 ∧ ¬ v.2 < 0) (fun v => mUp v.2) ⟨rfl, nn0⟩ (fun v hv => ?_)
  obtain ⟨x_2, x_3⟩ := v
  obtain ⟨rfl, rhn_4⟩ := hv
  have hn_4 : ¬ x_3 < 0 := rhn_4
  show ok (F_X2_keyOn_B2 hh s a1 x_3) _
  unfold F_X2_keyOn_B2
  refine ok_ite (fun h_5 => ?_) (fun h_6 => ?_)
  · exact ok_some (lp_inr (trivial))
  · refine ok_b1 (T_X10_at (isH_t h_hh 0 (by decide)) hR.1) (fun v_7 _ => ?_)
    refine ok_ite (fun h_9 => ?_) (fun h_10 => ?_)
    · exact ok_some (lp_inr (trivial))
    · exact ok_some (lp_inl ⟨rfl, (up_nn hn_4 (ge_t h_6))⟩ (up_t (ge_t h_6)))
theorem T_X2_hasKey {hh : Nat} {s : mG} {a1 : Int32} (h_hh : isH hh) (hI : IC s) : ok (F_X2_hasKey hh s a1) PB := by
  have hR : RC true s s := RC_refl hI
  unfold F_X2_hasKey
  refine ok_b1 (T_X2_keyOn h_hh hR.1) (fun v_1 _ => ?_)
  refine ok_ite (fun h_3 => ?_) (fun h_4 => ?_)
  · exact ok_some pb0
  · exact ok_some pb1
theorem T_X2_outSet {hh : Nat} {s : mG} (h_hh : isH hh) (hI : IC s) : ok (F_X2_outSet hh s) PT := by
  have hR : RC true s s := RC_refl hI
  unfold F_X2_outSet
  unfold F_X2_outSet_L4
  refine ok_whl (fun v => ¬ v.2 < 0) (fun v => mUp v.2) nn0 (fun v hv => ?_)
  obtain ⟨x_2, x_3⟩ := v
  have hn_4 : ¬ x_3 < 0 := hv
  show ok (F_X2_outSet_B4 hh s x_2 x_3) _
  unfold F_X2_outSet_B4
  refine ok_ite (fun h_5 => ?_) (fun h_6 => ?_)
  · exact ok_some (lp_inr (trivial))
  · refine ok_b1 (T_X2_isOut h_hh hR.1) (fun v_7 (hv_8 : PB v_7) => ?_)
    refine ok_ite (fun h_9 => ?_) (fun h_10 => ?_)
    · unfold F_X2_outSet_31
      exact ok_some (lp_inl (up_nn hn_4 (ge_t h_6)) (up_t (ge_t h_6)))
    · unfold F_X2_outSet_31
      exact ok_some (lp_inl (up_nn hn_4 (ge_t h_6)) (up_t (ge_t h_6)))
theorem T_X2_hookSet {hh : Nat} {s : mG} (h_hh : isH hh) (hI : IC s) : ok (F_X2_hookSet hh s) PT := by
  have hR : RC true s s := RC_refl hI
  unfold F_X2_hookSet
  unfold F_X2_hookSet_L4
  refine ok_whl (fun v => ¬ v.2 < 0) (fun v => mUp v.2) nn0 (fun v hv => ?_)
  obtain ⟨x_2, x_3⟩ := v
  have hn_4 : ¬ x_3 < 0 := hv
  show ok (F_X2_hookSet_B4 hh s x_2 x_3) _
  unfold F_X2_hookSet_B4
  refine ok_ite (fun h_5 => ?_) (fun h_6 => ?_)
  · exact ok_some (lp_inr (trivial))
  · refine ok_b1 (T_X2_hasKey h_hh hR.1) (fun v_7 (hv_8 : PB v_7) => ?_)
    refine ok_ite (fun h_9 => ?_) (fun h_10 => ?_)
    · unfold F_X2_hookSet_31
      exact ok_some (lp_inl (up_nn hn_4 (ge_t h_6)) (up_t (ge_t h_6)))
    · unfold F_X2_hookSet_31
      exact ok_some (lp_inl (up_nn hn_4 (ge_t h_6)) (up_t (ge_t h_6)))
theorem T_X2_keylessSet {hh : Nat} {s : mG} (h_hh : isH hh) (hI : IC s) : ok (F_X2_keylessSet hh s) PT := by
  have hR : RC true s s := RC_refl hI
  unfold F_X2_keylessSet
  unfold F_X2_keylessSet_L4
  refine ok_whl (fun v => ¬ v.2 < 0) (fun v => mUp v.2) nn0 (fun v hv => ?_)
  obtain ⟨x_2, x_3⟩ := v
  have hn_4 : ¬ x_3 < 0 := hv
  show ok (F_X2_keylessSet_B4 hh s x_2 x_3) _
  unfold F_X2_keylessSet_B4
  refine ok_ite (fun h_5 => ?_) (fun h_6 => ?_)
  · exact ok_some (lp_inr (trivial))
  · refine ok_b1 (T_X10_at (isH_t h_hh 0 (by decide)) hR.1) (fun v_7 _ => ?_)
    refine ok_ite (fun h_9 => ?_) (fun h_10 => ?_)
    · unfold F_X2_keylessSet_36
      exact ok_some (lp_inl (up_nn hn_4 (ge_t h_6)) (up_t (ge_t h_6)))
    · unfold F_X2_keylessSet_36
      exact ok_some (lp_inl (up_nn hn_4 (ge_t h_6)) (up_t (ge_t h_6)))
theorem T_X2_drawThousand {hh : Nat} {s : mG} (h_hh : isH hh) (hI : IC s) : ok (F_X2_drawThousand hh s) (fun τ => RC true s τ.2) := by
  have hR : RC true s s := RC_refl hI
  unfold F_X2_drawThousand
  extract_lets +onlyGivenNames s_1
  have hs_2 : RC true s s_1 := (RC_mh hR h_hh)
  clear_value s_1
  extract_lets +onlyGivenNames v_3
  clear_value v_3
  exact ok_some hs_2
theorem T_X2_write {hh : Nat} {a1 : Int32} {a2 : Int32} {a3 : Int32} {a4 : Int32} {s : mG} (h_hh : isH hh) (hI : IC s) : ok (F_X2_write hh a1 a2 a3 a4 s) (RC true s) := by
  have hR : RC true s s := RC_refl hI
  unfold F_X2_write
  refine ok_b1 (T_X10_isFull (isH_t h_hh 1 (by decide)) hR.1) (fun v_1 (hv_2 : PB v_1 ∧ (v_1 = 0 → s.1 (hh + 3) 3 < s.1 (hh + 3) 0)) => ?_)
  refine ok_ite (fun h_3 => ?_) (fun h_4 => ?_)
  · refine ok_b2 (ok_tr2 hR (T_X10_add (isH_t h_hh 1 (by decide)) hR.1)) (fun v_5 s_6 (hs_7 : RC true s s_6) => ?_)
    refine ok_b1 (ok_tr hs_7 (T_X10_put (isH_t h_hh 1 (by decide)) hs_7.1)) (fun s_8 (hs_9 : RC true s s_8) => ?_)
    refine ok_b1 (ok_tr hs_9 (T_X10_put (isH_t h_hh 1 (by decide)) hs_9.1)) (fun s_10 (hs_11 : RC true s s_10) => ?_)
    refine ok_b1 (ok_tr hs_11 (T_X10_put (isH_t h_hh 1 (by decide)) hs_11.1)) (fun s_12 (hs_13 : RC true s s_12) => ?_)
    refine ok_b1 (ok_tr hs_13 (T_X10_put (isH_t h_hh 1 (by decide)) hs_13.1)) (fun s_14 (hs_15 : RC true s s_14) => ?_)
    refine ok_b1 (ok_tr hs_15 (T_X10_put (isH_t h_hh 1 (by decide)) hs_15.1)) (fun s_16 (hs_17 : RC true s s_16) => ?_)
    exact ok_some hs_17
  · exact ok_some hR
theorem T_X2_clerkAt {hh : Nat} {s : mG} {a1 : Int32} (h_hh : isH hh) (hI : IC s) : ok (F_X2_clerkAt hh s a1) PT := by
  have hR : RC true s s := RC_refl hI
  unfold F_X2_clerkAt
  unfold F_X2_clerkAt_L2
  refine ok_whl (fun v => a1 = v.1 ∧ ¬ v.2 < 0) (fun v => mUp v.2) ⟨rfl, nn0⟩ (fun v hv => ?_)
  obtain ⟨x_6, x_7⟩ := v
  obtain ⟨rfl, rhn_8⟩ := hv
  have hn_8 : ¬ x_7 < 0 := rhn_8
  show ok (F_X2_clerkAt_B2 hh s a1 x_7) _
  unfold F_X2_clerkAt_B2
  refine ok_ite (fun h_9 => ?_) (fun h_10 => ?_)
  · exact ok_some (lp_inr (trivial))
  · refine ok_b1 (T_X10_at (isH_t h_hh 5 (by decide)) hR.1) (fun v_11 _ => ?_)
    extract_lets +onlyGivenNames v_13
    clear_value v_13
    refine ok_b1 (T_X10_at (isH_t h_hh 5 (by decide)) hR.1) (fun v_14 _ => ?_)
    refine ok_ite (fun h_16 => ?_) (fun h_17 => ?_)
    · refine ok_b1 (T_X10_at (isH_t h_hh 5 (by decide)) hR.1) (fun v_18 _ => ?_)
      refine ok_ite (fun h_20 => ?_) (fun h_21 => ?_)
      · unfold F_X2_clerkAt_73
        exact ok_some (lp_inl ⟨rfl, (up_nn hn_8 (ge_t h_10))⟩ (up_t (ge_t h_10)))
      · refine ok_b1 (T_X10_at (isH_t h_hh 5 (by decide)) hR.1) (fun v_22 _ => ?_)
        exact ok_some (lp_inr (trivial))
    · unfold F_X2_clerkAt_73
      exact ok_some (lp_inl ⟨rfl, (up_nn hn_8 (ge_t h_10))⟩ (up_t (ge_t h_10)))
theorem T_X4_takeFrom {mo : Nat} {a1 : Nat} {s : mG} (h_mo : isM mo) (h_a1 : isH a1) (hI : IC s) : ok (F_X4_takeFrom mo a1 s) (RC true s) := by
  have hR : RC true s s := RC_refl hI
  unfold F_X4_takeFrom
  refine ok_b1 (ok_tr hR (T_X10_copyFrom h_mo.2 (isH_t h_a1 0 (by decide)) hR.1)) (fun s_1 (hs_2 : RC true s s_1) => ?_)
  extract_lets +onlyGivenNames s_3
  have hs_4 : RC true s s_3 := (RC_mm hs_2 h_mo)
  clear_value s_3
  extract_lets +onlyGivenNames s_5
  have hs_6 : RC true s s_5 := (RC_mm hs_4 h_mo)
  clear_value s_5
  extract_lets +onlyGivenNames s_7
  have hs_8 : RC true s s_7 := (RC_mm hs_6 h_mo)
  clear_value s_7
  exact ok_some hs_8
theorem T_X4_giveTo {mo : Nat} {a1 : Nat} {s : mG} (h_mo : isM mo) (h_a1 : isH a1) (hI : IC s) : ok (F_X4_giveTo mo a1 s) (RC true s) := by
  have hR : RC true s s := RC_refl hI
  unfold F_X4_giveTo
  refine ok_b1 (ok_tr hR (T_X10_copyFrom (isH_t h_a1 0 (by decide)) h_mo.2 hR.1)) (fun s_1 (hs_2 : RC true s s_1) => ?_)
  extract_lets +onlyGivenNames s_3
  have hs_4 : RC true s s_3 := (RC_rows hs_2 (isH_t h_a1 1 (by decide)) (by omega))
  clear_value s_3
  extract_lets +onlyGivenNames s_5
  have hs_6 : RC true s s_5 := (RC_mh hs_4 h_a1)
  clear_value s_5
  extract_lets +onlyGivenNames s_7
  have hs_8 : RC true s s_7 := (RC_mh hs_6 h_a1)
  clear_value s_7
  exact ok_some hs_8
theorem T_X5_forget {s : mG} (hI : IC s) : ok (F_X5_forget s) (RC true s) := by
  have hR : RC true s s := RC_refl hI
  unfold F_X5_forget
  extract_lets +onlyGivenNames s_1
  have hs_2 : RC true s s_1 := (RC_mu hR (by decide))
  clear_value s_1
  exact ok_some hs_2
/-! X5_momentAt: by hand -/
theorem T_X5_momentAt {s : mG} {a1 : Int32} (hI : IC s) : ok (F_X5_momentAt s a1) (fun o => ∀ k, o = some k → isM k) := by
  have h : ∃ o, F_X5_momentAt s a1 = some o := by
    unfold F_X5_momentAt F_X5_momentAt_22
    by_cases h1 : a1 < 0
    · rw [if_pos h1]; exact ⟨_, rfl⟩
    · rw [if_neg h1]
      by_cases h2 : cn 6 ≤ a1
      · rw [if_pos h2]; exact ⟨_, rfl⟩
      · rw [if_neg h2, if_neg (idx_ok (by decide) h1 h2)]; exact ⟨_, rfl⟩
  obtain ⟨o, h⟩ := h
  refine ⟨o, h, fun k hk => ?_⟩
  subst hk
  exact momM h
theorem T_X5_keep {a1 : Nat} {s : mG} (h_a1 : isH a1) (hI : IC s) : ok (F_X5_keep a1 s) (RC true s) := by
  have hR : RC true s s := RC_refl hI
  unfold F_X5_keep
  refine ok_bo (T_X5_momentAt hR.1) (fun _ => ?_) (fun o_2 h_1 => ?_)
  · exact ok_some hR
  · refine ok_b1 (ok_tr hR (T_X4_takeFrom (h_1 _ rfl) h_a1 hR.1)) (fun s_3 (hs_4 : RC true s s_3) => ?_)
    extract_lets +onlyGivenNames s_5
    have hs_6 : RC true s s_5 := (RC_mu hs_4 (by decide))
    clear_value s_5
    extract_lets +onlyGivenNames s_7
    have hs_8 : RC true s s_7 := (RC_mu hs_6 (by decide))
    clear_value s_7
    exact ok_some hs_8
theorem T_X5_giveBack {a1 : Nat} {s : mG} (h_a1 : isH a1) (hI : IC s) : ok (F_X5_giveBack a1 s) (fun τ => PB τ.1 ∧ RC true s τ.2) := by
  have hR : RC true s s := RC_refl hI
  unfold F_X5_giveBack
  extract_lets +onlyGivenNames v_1
  clear_value v_1
  refine ok_bo (T_X5_momentAt hR.1) (fun _ => ?_) (fun o_3 h_2 => ?_)
  · refine ok_ite (fun h_4 => ?_) (fun h_5 => ?_)
    · unfold F_X5_giveBack_30
      exact ok_some ⟨pb0, hR⟩
    · unfold F_X5_giveBack_30
      exact ok_some ⟨pb0, hR⟩
  · refine ok_ite (fun h_6 => ?_) (fun h_7 => ?_)
    · unfold F_X5_giveBack_30
      exact ok_some ⟨pb0, hR⟩
    · refine ok_b1 (ok_tr hR (T_X4_giveTo (h_2 _ rfl) h_a1 hR.1)) (fun s_8 (hs_9 : RC true s s_8) => ?_)
      extract_lets +onlyGivenNames s_10
      have hs_11 : RC true s s_10 := (RC_mu hs_9 (by decide))
      clear_value s_10
      extract_lets +onlyGivenNames s_12
      have hs_13 : RC true s s_12 := (RC_mu hs_11 (by decide))
      clear_value s_12
      exact ok_some ⟨pb1, hs_13⟩
theorem T_X6_ask {a1 : Int32} {s : mG} (hI : IC s) : ok (F_X6_ask a1 s) (RC true s) := by
  have hR : RC true s s := RC_refl hI
  unfold F_X6_ask
  refine ok_b1 (ok_tr hR (T_X3_face hR.1)) (fun s_1 (hs_2 : RC true s s_1) => ?_)
  unfold F_X6_ask_L10
  refine ok_whl (fun v => RC true s v.2 ∧ ¬ v.1 < 0) (fun v => mUp v.1) ⟨hs_2, nn0⟩ (fun v hv => ?_)
  obtain ⟨x_6, s_7⟩ := v
  obtain ⟨rhs_8, rhn_9⟩ := hv
  have hs_8 : RC true s s_7 := rhs_8
  have hn_9 : ¬ x_6 < 0 := rhn_9
  show ok (F_X6_ask_B10 x_6 s_7) _
  unfold F_X6_ask_B10
  refine ok_ite (fun h_10 => ?_) (fun h_11 => ?_)
  · exact ok_some (lp_inr (hs_8))
  · refine ok_b2 (ok_tr2 hs_8 (T_X3_tells hs_8.1)) (fun v_12 s_13 (hs_14 : RC true s s_13) => ?_)
    refine ok_nn (idx_ok (by decide) hn_9 h_11) ?_
    extract_lets +onlyGivenNames s_15
    have hs_16 : RC true s s_15 := (RC_mw hs_14 (by decide))
    clear_value s_15
    exact ok_some (lp_inl ⟨hs_16, (up_nn hn_9 (ge_t h_11))⟩ (up_t (ge_t h_11)))
theorem T_X6_isDrawn {a1 : Int32} {s : mG} (hI : IC s) : ok (F_X6_isDrawn a1 s) (fun τ => PB τ.1 ∧ RC true s τ.2) := by
  have hR : RC true s s := RC_refl hI
  unfold F_X6_isDrawn
  refine ok_b2 (ok_tr2 hR (T_X2_drawThousand isH_1 hR.1)) (fun v_1 s_2 (hs_3 : RC true s s_2) => ?_)
  refine ok_b1 (T_X11_cell sh72 hs_3.1) (fun v_4 _ => ?_)
  refine ok_ite (fun h_6 => ?_) (fun h_7 => ?_)
  · exact ok_some ⟨pb0, hs_3⟩
  · exact ok_some ⟨pb1, hs_3⟩
theorem T_X6_hangKey {a1 : Int32} {s : mG} (hI : IC s) : ok (F_X6_hangKey a1 s) (RC true s) := by
  have hR : RC true s s := RC_refl hI
  unfold F_X6_hangKey
  refine ok_b2 (ok_tr3 hR (T_X6_isDrawn hR.1)) (fun v_1 s_2 (hs_3 : PB v_1 ∧ RC true s s_2) => ?_)
  refine ok_ite (fun h_4 => ?_) (fun h_5 => ?_)
  · unfold F_X6_hangKey_51
    refine ok_b1 (T_X2_hasKey isH_1 hs_3.2.1) (fun v_6 (hv_7 : PB v_6) => ?_)
    refine ok_ite (fun h_8 => ?_) (fun h_9 => ?_)
    · refine ok_b1 (ok_tr hs_3.2 (T_X10_put isT_2 hs_3.2.1)) (fun s_10 (hs_11 : RC true s s_10) => ?_)
      exact ok_some hs_11
    · exact ok_some hs_3.2
  · refine ok_ite (fun h_12 => ?_) (fun h_13 => ?_)
    · unfold F_X6_hangKey_33
      refine ok_b1 (T_X2_hasKey isH_1 hs_3.2.1) (fun v_14 (hv_15 : PB v_14) => ?_)
      refine ok_ite (fun h_16 => ?_) (fun h_17 => ?_)
      · unfold F_X6_hangKey_50
        unfold F_X6_hangKey_51
        refine ok_b1 (T_X2_hasKey isH_1 hs_3.2.1) (fun v_18 (hv_19 : PB v_18) => ?_)
        refine ok_ite (fun h_20 => ?_) (fun h_21 => ?_)
        · refine ok_b1 (ok_tr hs_3.2 (T_X10_put isT_2 hs_3.2.1)) (fun s_22 (hs_23 : RC true s s_22) => ?_)
          exact ok_some hs_23
        · exact ok_some hs_3.2
      · unfold F_X6_hangKey_50
        unfold F_X6_hangKey_51
        refine ok_b1 (T_X2_hasKey isH_1 hs_3.2.1) (fun v_24 (hv_25 : PB v_24) => ?_)
        refine ok_ite (fun h_26 => ?_) (fun h_27 => ?_)
        · refine ok_b1 (ok_tr hs_3.2 (T_X10_put isT_2 hs_3.2.1)) (fun s_28 (hs_29 : RC true s s_28) => ?_)
          exact ok_some hs_29
        · exact ok_some hs_3.2
    · unfold F_X6_hangKey_33
      refine ok_b1 (T_X2_hasKey isH_1 hs_3.2.1) (fun v_30 (hv_31 : PB v_30) => ?_)
      refine ok_ite (fun h_32 => ?_) (fun h_33 => ?_)
      · unfold F_X6_hangKey_50
        unfold F_X6_hangKey_51
        refine ok_b1 (T_X2_hasKey isH_1 hs_3.2.1) (fun v_34 (hv_35 : PB v_34) => ?_)
        refine ok_ite (fun h_36 => ?_) (fun h_37 => ?_)
        · refine ok_b1 (ok_tr hs_3.2 (T_X10_put isT_2 hs_3.2.1)) (fun s_38 (hs_39 : RC true s s_38) => ?_)
          exact ok_some hs_39
        · exact ok_some hs_3.2
      · unfold F_X6_hangKey_50
        unfold F_X6_hangKey_51
        refine ok_b1 (T_X2_hasKey isH_1 hs_3.2.1) (fun v_40 (hv_41 : PB v_40) => ?_)
        refine ok_ite (fun h_42 => ?_) (fun h_43 => ?_)
        · refine ok_b1 (ok_tr hs_3.2 (T_X10_put isT_2 hs_3.2.1)) (fun s_44 (hs_45 : RC true s s_44) => ?_)
          exact ok_some hs_45
        · exact ok_some hs_3.2
theorem T_X6_goes {a1 : Int32} {s : mG} (hI : IC s) : ok (F_X6_goes a1 s) (fun τ => PB τ.1 ∧ RC true s τ.2) := by
  have hR : RC true s s := RC_refl hI
  unfold F_X6_goes
  refine ok_b2 (ok_tr3 hR (T_X6_isDrawn hR.1)) (fun v_1 s_2 (hs_3 : PB v_1 ∧ RC true s s_2) => ?_)
  refine ok_ite (fun h_4 => ?_) (fun h_5 => ?_)
  · exact ok_some ⟨pb0, hs_3.2⟩
  · refine ok_b1 (ok_tr hs_3.2 (T_X10_put isT_2 hs_3.2.1)) (fun s_6 (hs_7 : RC true s s_6) => ?_)
    refine ok_b2 (ok_tr3 hs_7 (T_X6_isDrawn hs_7.1)) (fun v_8 s_9 (hs_10 : PB v_8 ∧ RC true s s_9) => ?_)
    refine ok_ite (fun h_11 => ?_) (fun h_12 => ?_)
    · unfold F_X6_goes_36
      refine ok_b2 (ok_tr3 hs_10.2 (T_X6_isDrawn hs_10.2.1)) (fun v_13 s_14 (hs_15 : PB v_13 ∧ RC true s s_14) => ?_)
      refine ok_ite (fun h_16 => ?_) (fun h_17 => ?_)
      · refine ok_b1 (ok_tr hs_15.2 (T_X6_hangKey hs_15.2.1)) (fun s_18 (hs_19 : RC true s s_18) => ?_)
        unfold F_X6_goes_50
        refine ok_b1 (T_X2_clerkAt isH_1 hs_19.1) (fun v_20 _ => ?_)
        refine ok_b1 (ok_tr hs_19 (T_X2_write isH_1 hs_19.1)) (fun s_22 (hs_23 : RC true s s_22) => ?_)
        exact ok_some ⟨pb1, hs_23⟩
      · unfold F_X6_goes_50
        refine ok_b1 (T_X2_clerkAt isH_1 hs_15.2.1) (fun v_24 _ => ?_)
        refine ok_b1 (ok_tr hs_15.2 (T_X2_write isH_1 hs_15.2.1)) (fun s_26 (hs_27 : RC true s s_26) => ?_)
        exact ok_some ⟨pb1, hs_27⟩
    · unfold F_X6_goes_36
      refine ok_b2 (ok_tr3 hs_10.2 (T_X6_isDrawn hs_10.2.1)) (fun v_28 s_29 (hs_30 : PB v_28 ∧ RC true s s_29) => ?_)
      refine ok_ite (fun h_31 => ?_) (fun h_32 => ?_)
      · refine ok_b1 (ok_tr hs_30.2 (T_X6_hangKey hs_30.2.1)) (fun s_33 (hs_34 : RC true s s_33) => ?_)
        unfold F_X6_goes_50
        refine ok_b1 (T_X2_clerkAt isH_1 hs_34.1) (fun v_35 _ => ?_)
        refine ok_b1 (ok_tr hs_34 (T_X2_write isH_1 hs_34.1)) (fun s_37 (hs_38 : RC true s s_37) => ?_)
        exact ok_some ⟨pb1, hs_38⟩
      · unfold F_X6_goes_50
        refine ok_b1 (T_X2_clerkAt isH_1 hs_30.2.1) (fun v_39 _ => ?_)
        refine ok_b1 (ok_tr hs_30.2 (T_X2_write isH_1 hs_30.2.1)) (fun s_41 (hs_42 : RC true s s_41) => ?_)
        exact ok_some ⟨pb1, hs_42⟩
theorem T_X6_comes {a1 : Int32} {s : mG} (hI : IC s) : ok (F_X6_comes a1 s) (fun τ => PB τ.1 ∧ RC true s τ.2) := by
  have hR : RC true s s := RC_refl hI
  unfold F_X6_comes
  refine ok_b2 (ok_tr3 hR (T_X6_isDrawn hR.1)) (fun v_1 s_2 (hs_3 : PB v_1 ∧ RC true s s_2) => ?_)
  refine ok_ite (fun h_4 => ?_) (fun h_5 => ?_)
  · exact ok_some ⟨pb0, hs_3.2⟩
  · refine ok_b1 (ok_tr hs_3.2 (T_X10_put isT_2 hs_3.2.1)) (fun s_6 (hs_7 : RC true s s_6) => ?_)
    refine ok_b1 (ok_tr hs_7 (T_X10_put isT_2 hs_7.1)) (fun s_8 (hs_9 : RC true s s_8) => ?_)
    refine ok_b2 (ok_tr3 hs_9 (T_X6_isDrawn hs_9.1)) (fun v_10 s_11 (hs_12 : PB v_10 ∧ RC true s s_11) => ?_)
    refine ok_ite (fun h_13 => ?_) (fun h_14 => ?_)
    · unfold F_X6_comes_49
      refine ok_b1 (T_X2_clerkAt isH_1 hs_12.2.1) (fun v_15 _ => ?_)
      refine ok_b1 (ok_tr hs_12.2 (T_X2_write isH_1 hs_12.2.1)) (fun s_17 (hs_18 : RC true s s_17) => ?_)
      exact ok_some ⟨pb1, hs_18⟩
    · unfold F_X6_comes_49
      refine ok_b1 (T_X2_clerkAt isH_1 hs_12.2.1) (fun v_19 _ => ?_)
      refine ok_b1 (ok_tr hs_12.2 (T_X2_write isH_1 hs_12.2.1)) (fun s_21 (hs_22 : RC true s s_21) => ?_)
      exact ok_some ⟨pb1, hs_22⟩
theorem T_X6_passHour {s : mG} (hI : IC s) : ok (F_X6_passHour s) (fun τ => RC true s τ.2) := by
  have hR : RC true s s := RC_refl hI
  unfold F_X6_passHour
  unfold F_X6_passHour_L4
  refine ok_whl (fun v => RC true s v.2.2 ∧ ¬ v.2.1 < 0) (fun v => mUp v.2.1) ⟨hR, nn0⟩ (fun v hv => ?_)
  obtain ⟨x_24, x_25, s_26⟩ := v
  obtain ⟨rhs_27, rhn_28⟩ := hv
  have hs_27 : RC true s s_26 := rhs_27
  have hn_28 : ¬ x_25 < 0 := rhn_28
  show ok (F_X6_passHour_B4 x_24 x_25 s_26) _
  unfold F_X6_passHour_B4
  refine ok_ite (fun h_29 => ?_) (fun h_30 => ?_)
  · extract_lets +onlyGivenNames s_31
    have hs_32 : RC true s s_31 := (RC_mu hs_27 (by decide))
    clear_value s_31
    exact ok_some (lp_inr (hs_32))
  · refine ok_b1 (ok_tr hs_27 (T_X6_ask hs_27.1)) (fun s_33 (hs_34 : RC true s s_33) => ?_)
    refine ok_b1 (T_X2_isOut isH_1 hs_34.1) (fun v_35 (hv_36 : PB v_35) => ?_)
    refine ok_ite (fun h_37 => ?_) (fun h_38 => ?_)
    · refine ok_b2 (ok_tr3 hs_34 (T_X6_goes hs_34.1)) (fun v_39 s_40 (hs_41 : PB v_39 ∧ RC true s s_40) => ?_)
      unfold F_X6_passHour_47
      refine ok_ite (fun h_42 => ?_) (fun h_43 => ?_)
      · unfold F_X6_passHour_58
        refine ok_b1 (T_X10_at isT_2 hs_41.2.1) (fun v_44 _ => ?_)
        extract_lets +onlyGivenNames v_46
        clear_value v_46
        refine ok_ite (fun h_47 => ?_) (fun h_48 => ?_)
        · unfold F_X6_passHour_101
          refine ok_b1 (ok_tr hs_41.2 (T_X10_put isT_2 hs_41.2.1)) (fun s_49 (hs_50 : RC true s s_49) => ?_)
          exact ok_some (lp_inl ⟨hs_50, (up_nn hn_28 (ge_t h_30))⟩ (up_t (ge_t h_30)))
        · unfold F_X6_passHour_101
          refine ok_b1 (ok_tr hs_41.2 (T_X10_put isT_2 hs_41.2.1)) (fun s_51 (hs_52 : RC true s s_51) => ?_)
          exact ok_some (lp_inl ⟨hs_52, (up_nn hn_28 (ge_t h_30))⟩ (up_t (ge_t h_30)))
      · unfold F_X6_passHour_58
        refine ok_b1 (T_X10_at isT_2 hs_41.2.1) (fun v_53 _ => ?_)
        extract_lets +onlyGivenNames v_55
        clear_value v_55
        refine ok_ite (fun h_56 => ?_) (fun h_57 => ?_)
        · unfold F_X6_passHour_101
          refine ok_b1 (ok_tr hs_41.2 (T_X10_put isT_2 hs_41.2.1)) (fun s_58 (hs_59 : RC true s s_58) => ?_)
          exact ok_some (lp_inl ⟨hs_59, (up_nn hn_28 (ge_t h_30))⟩ (up_t (ge_t h_30)))
        · unfold F_X6_passHour_101
          refine ok_b1 (ok_tr hs_41.2 (T_X10_put isT_2 hs_41.2.1)) (fun s_60 (hs_61 : RC true s s_60) => ?_)
          exact ok_some (lp_inl ⟨hs_61, (up_nn hn_28 (ge_t h_30))⟩ (up_t (ge_t h_30)))
    · refine ok_b2 (ok_tr3 hs_34 (T_X6_comes hs_34.1)) (fun v_62 s_63 (hs_64 : PB v_62 ∧ RC true s s_63) => ?_)
      unfold F_X6_passHour_47
      refine ok_ite (fun h_65 => ?_) (fun h_66 => ?_)
      · unfold F_X6_passHour_58
        refine ok_b1 (T_X10_at isT_2 hs_64.2.1) (fun v_67 _ => ?_)
        extract_lets +onlyGivenNames v_69
        clear_value v_69
        refine ok_ite (fun h_70 => ?_) (fun h_71 => ?_)
        · unfold F_X6_passHour_101
          refine ok_b1 (ok_tr hs_64.2 (T_X10_put isT_2 hs_64.2.1)) (fun s_72 (hs_73 : RC true s s_72) => ?_)
          exact ok_some (lp_inl ⟨hs_73, (up_nn hn_28 (ge_t h_30))⟩ (up_t (ge_t h_30)))
        · unfold F_X6_passHour_101
          refine ok_b1 (ok_tr hs_64.2 (T_X10_put isT_2 hs_64.2.1)) (fun s_74 (hs_75 : RC true s s_74) => ?_)
          exact ok_some (lp_inl ⟨hs_75, (up_nn hn_28 (ge_t h_30))⟩ (up_t (ge_t h_30)))
      · unfold F_X6_passHour_58
        refine ok_b1 (T_X10_at isT_2 hs_64.2.1) (fun v_76 _ => ?_)
        extract_lets +onlyGivenNames v_78
        clear_value v_78
        refine ok_ite (fun h_79 => ?_) (fun h_80 => ?_)
        · unfold F_X6_passHour_101
          refine ok_b1 (ok_tr hs_64.2 (T_X10_put isT_2 hs_64.2.1)) (fun s_81 (hs_82 : RC true s s_81) => ?_)
          exact ok_some (lp_inl ⟨hs_82, (up_nn hn_28 (ge_t h_30))⟩ (up_t (ge_t h_30)))
        · unfold F_X6_passHour_101
          refine ok_b1 (ok_tr hs_64.2 (T_X10_put isT_2 hs_64.2.1)) (fun s_83 (hs_84 : RC true s s_83) => ?_)
          exact ok_some (lp_inl ⟨hs_84, (up_nn hn_28 (ge_t h_30))⟩ (up_t (ge_t h_30)))
theorem T_X7_hasSpaceFor {s : mG} {a1 : Int32} (hI : IC s) : ok (F_X7_hasSpaceFor s a1) PB := by
  have hR : RC true s s := RC_refl hI
  unfold F_X7_hasSpaceFor
  refine ok_ite (fun h_1 => ?_) (fun h_2 => ?_)
  · exact ok_some pb0
  · exact ok_some pb1
/-! X7_takeFour: by hand -/
theorem T_X7_takeFour {a1 : Int32} {s : mG} (hI : IC s) : ok (F_X7_takeFour a1 s) (fun s' => RC false s s' ∧ s'.1 55 9 = s.1 55 9 + ci 4) := by
  unfold F_X7_takeFour F_X7_takeFour_L3
  refine ok_whl (fun v => RC false s v.2.2 ∧ ∃ k : Nat, k ≤ 4 ∧ v.2.1.toInt = 24 - 8 * (k : Int) ∧ v.2.2.1 55 9 = s.1 55 9 + cn k) (fun v => mDn v.2.1) ⟨RC_refl hI, 0, by decide, show (c8 24).toInt = _ by decide, show s.1 55 9 = s.1 55 9 + cn 0 by rw [show cn 0 = 0 by decide, Int32.add_zero]⟩ (fun v hv => ?_)
  obtain ⟨x1, x2, s1⟩ := v
  obtain ⟨rs1, k, h1, h2, h3⟩ := hv
  have hs1 : RC false s s1 := rs1
  replace h2 : x2.toInt = 24 - 8 * (k : Int) := h2
  replace h3 : s1.1 55 9 = s.1 55 9 + cn k := h3
  show ok (F_X7_takeFour_B3 x1 x2 s1) _
  unfold F_X7_takeFour_B3
  refine ok_ite (fun h => ?_) (fun h => ?_)
  · rw [t_neg_iff] at h
    have hk : k = 4 := by omega
    subst hk
    exact ok_some (lp_inr ⟨hs1, h3⟩)
  · have h0 := t_nn h
    refine ok_b1 (T_X11_put sh64 (by decide) hs1.1) (fun s3 (hs3 : RC true s1 s3) => ?_)
    extract_lets +onlyGivenNames s4
    have e4 : s4.1 55 9 = s3.1 55 9 + ci 1 := mu_sameP
    have hs4 : RC false s s4 := RC_cell (RC_weak (RC_tr hs1 hs3)) (by decide) (by decide) (fun q => absurd q (by decide))
    clear_value s4
    have e5 : s4.1 55 9 = s.1 55 9 + cn (k + 1) := by
      rw [e4, hs3.2.2.2 rfl, h3, Int32.add_assoc]
      have hk : k = 0 ∨ k = 1 ∨ k = 2 ∨ k = 3 := by omega
      rcases hk with rfl | rfl | rfl | rfl <;> rfl
    exact ok_some (lp_inl ⟨hs4, k + 1, by omega, show (x2 + ci (-8)).toInt = _ by rw [t_add (by rw [t_cm8]; omega) (by rw [t_cm8]; omega), t_cm8]; omega, e5⟩ (dn8_t h))
theorem T_X7_stepOn {s : mG} (hI : IC s) : ok (F_X7_stepOn s) (RC true s) := by
  have hR : RC true s s := RC_refl hI
  unfold F_X7_stepOn
  extract_lets +onlyGivenNames s_1
  have hs_2 : RC true s s_1 := (RC_mu hR (by decide))
  clear_value s_1
  refine ok_b1 (T_X10_at isT_65 hs_2.1) (fun v_3 _ => ?_)
  extract_lets +onlyGivenNames s_5
  have hs_6 : RC true s s_5 := (RC_mu hs_2 (by decide))
  clear_value s_5
  refine ok_b1 (T_X10_at isT_65 hs_6.1) (fun v_7 _ => ?_)
  extract_lets +onlyGivenNames s_9
  have hs_10 : RC true s s_9 := (RC_mu hs_6 (by decide))
  clear_value s_9
  refine ok_b1 (T_X10_at isT_65 hs_10.1) (fun v_11 _ => ?_)
  extract_lets +onlyGivenNames s_13
  have hs_14 : RC true s s_13 := (RC_mu hs_10 (by decide))
  clear_value s_13
  exact ok_some hs_14
theorem T_X7_isBlank {s : mG} {a1 : Int32} (hI : IC s) : ok (F_X7_isBlank s a1) PB := by
  have hR : RC true s s := RC_refl hI
  unfold F_X7_isBlank
  refine ok_ite (fun h_1 => ?_) (fun h_2 => ?_)
  · unfold F_X7_isBlank_12
    exact ok_some pb1
  · refine ok_ite (fun h_3 => ?_) (fun h_4 => ?_)
    · unfold F_X7_isBlank_12
      exact ok_some pb1
    · exact ok_some pb0
theorem T_X7_skipBlanks {s : mG} (hI : IC s) : ok (F_X7_skipBlanks s) (fun τ => PB τ.1 ∧ RC true s τ.2) := by
  have hR : RC true s s := RC_refl hI
  unfold F_X7_skipBlanks
  unfold F_X7_skipBlanks_L0
  refine ok_whl (fun v => RC true s v) (fun v => mUp (v.1 55 13)) hR (fun s_5 hv => ?_)
  have hs_6 : RC true s s_5 := hv
  show ok (F_X7_skipBlanks_B0 s_5) _
  unfold F_X7_skipBlanks_B0
  refine ok_ite (fun h_7 => ?_) (fun h_8 => ?_)
  · refine ok_b1r ?_
    unfold F_X7_skipBlanks_41
    refine ok_ite (fun h_9 => ?_) (fun h_10 => ?_)
    · exact ok_some ⟨pb0, hs_6⟩
    · exact ok_some ⟨pb1, hs_6⟩
  · refine ok_b1 (T_X11_cell sh64 hs_6.1) (fun v_11 _ => ?_)
    refine ok_b1 (T_X7_isBlank hs_6.1) (fun v_13 (hv_14 : PB v_13) => ?_)
    refine ok_ite (fun h_15 => ?_) (fun h_16 => ?_)
    · refine ok_b1r ?_
      unfold F_X7_skipBlanks_41
      refine ok_ite (fun h_17 => ?_) (fun h_18 => ?_)
      · exact ok_some ⟨pb0, hs_6⟩
      · exact ok_some ⟨pb1, hs_6⟩
    · extract_lets +onlyGivenNames s_19
      have hm_21 : mUp (s_19.1 55 13) < mUp (s_5.1 55 13) := by
        rw [show s_19.1 55 13 = s_5.1 55 13 + ci 1 from mu_sameP]
        exact up_t (ge_t h_8)
      have hs_20 : RC true s s_19 := (RC_mu hs_6 (by decide))
      clear_value s_19
      exact ok_some (lp_inl hs_20 hm_21)
end
end
/-! 54.c -/
section
noncomputable section
theorem T_X7_addToken {a1 : Int32} {a2 : Int32} {a3 : Int32} {s : mG} (hI : IC s) : ok (F_X7_addToken a1 a2 a3 s) (RC true s) := by
  have hR : RC true s s := RC_refl hI
  unfold F_X7_addToken
  refine ok_b2 (ok_tr2 hR (T_X10_add isT_65 hR.1)) (fun v_1 s_2 (hs_3 : RC true s s_2) => ?_)
  refine ok_b1 (ok_tr hs_3 (T_X10_put isT_65 hs_3.1)) (fun s_4 (hs_5 : RC true s s_4) => ?_)
  refine ok_b1 (ok_tr hs_5 (T_X10_put isT_65 hs_5.1)) (fun s_6 (hs_7 : RC true s s_6) => ?_)
  refine ok_b1 (ok_tr hs_7 (T_X10_put isT_65 hs_7.1)) (fun s_8 (hs_9 : RC true s s_8) => ?_)
  exact ok_some hs_9
theorem T_X7_isWord {s : mG} {a1 : Int32} {a2 : Int32} {a3 : Int32} (hI : IC s) : ok (F_X7_isWord s a1 a2 a3) PB := by
  have hR : RC true s s := RC_refl hI
  unfold F_X7_isWord
  refine ok_ite (fun h_1 => ?_) (fun h_2 => ?_)
  · unfold F_X7_isWord_L21
    refine ok_whl (fun v => a1 = v.1 ∧ a2 = v.2.1 ∧ a3 = v.2.2.1 ∧ ¬ v.2.2.2 < 0) (fun v => mUp v.2.2.2) ⟨rfl, rfl, rfl, (imax_nn _)⟩ (fun v hv => ?_)
    obtain ⟨x_6, x_7, x_8, x_9⟩ := v
    obtain ⟨rfl, rfl, rfl, rhn_10⟩ := hv
    have hn_10 : ¬ x_9 < 0 := rhn_10
    show ok (F_X7_isWord_B21 s a1 a2 a3 x_9) _
    unfold F_X7_isWord_B21
    refine ok_ite (fun h_11 => ?_) (fun h_12 => ?_)
    · refine ok_b1r ?_
      unfold F_X7_isWord_68
      exact ok_some pb1
    · refine ok_b1 (T_len (by decide)) (fun v_13 (hv_14 : v_13 = cn 126) => ?_)
      refine ok_ite (fun h_15 => ?_) (fun h_16 => ?_)
      · refine ok_b1r ?_
        unfold F_X7_isWord_68
        exact ok_some pb1
      · refine ok_b1 (T_chr (by decide) hn_10 (t_rw hv_14 h_16)) (fun v_17 _ => ?_)
        refine ok_b1 (T_X11_cell sh64 hR.1) (fun v_19 _ => ?_)
        refine ok_ite (fun h_21 => ?_) (fun h_22 => ?_)
        · exact ok_some (lp_inl ⟨rfl, rfl, rfl, (up_nn hn_10 (ge_t h_16))⟩ (up_t (ge_t h_16)))
        · exact ok_some (lp_inr (pb0))
  · exact ok_some pb0
theorem T_X7_wordNumber {s : mG} {a1 : Int32} (hI : IC s) : ok (F_X7_wordNumber s a1) PT := by
  have hR : RC true s s := RC_refl hI
  unfold F_X7_wordNumber
  unfold F_X7_wordNumber_L7
  refine ok_whl (fun v => a1 = v.1 ∧ ¬ v.2.2.2 < 0) (fun v => mUp v.2.2.2) ⟨rfl, nn0⟩ (fun v hv => ?_)
  obtain ⟨x_4, x_5, x_6, x_7⟩ := v
  obtain ⟨rfl, rhn_8⟩ := hv
  have hn_8 : ¬ x_7 < 0 := rhn_8
  show ok (F_X7_wordNumber_B7 s a1 x_5 x_6 x_7) _
  unfold F_X7_wordNumber_B7
  refine ok_b1 (T_len (by decide)) (fun v_9 (hv_10 : v_9 = cn 126) => ?_)
  refine ok_ite (fun h_11 => ?_) (fun h_12 => ?_)
  · exact ok_some (lp_inr (trivial))
  · refine ok_b1 (T_chr (by decide) hn_8 (t_rw hv_10 h_12)) (fun v_13 _ => ?_)
    refine ok_ite (fun h_15 => ?_) (fun h_16 => ?_)
    · refine ok_b1 (T_X7_isWord hR.1) (fun v_17 (hv_18 : PB v_17) => ?_)
      refine ok_ite (fun h_19 => ?_) (fun h_20 => ?_)
      · unfold F_X7_wordNumber_50
        exact ok_some (lp_inl ⟨rfl, (up_nn hn_8 (ge_t h_12))⟩ (up_t (ge_t h_12)))
      · exact ok_some (lp_inr (trivial))
    · unfold F_X7_wordNumber_50
      exact ok_some (lp_inl ⟨rfl, (up_nn hn_8 (ge_t h_12))⟩ (up_t (ge_t h_12)))
theorem T_X7_isLetter {s : mG} {a1 : Int32} (hI : IC s) : ok (F_X7_isLetter s a1) PB := by
  have hR : RC true s s := RC_refl hI
  unfold F_X7_isLetter
  refine ok_ite (fun h_1 => ?_) (fun h_2 => ?_)
  · unfold F_X7_isLetter_12
    refine ok_ite (fun h_3 => ?_) (fun h_4 => ?_)
    · unfold F_X7_isLetter_28
      exact ok_some pb0
    · refine ok_ite (fun h_5 => ?_) (fun h_6 => ?_)
      · unfold F_X7_isLetter_28
        exact ok_some pb0
      · unfold F_X7_isLetter_24
        exact ok_some pb1
  · refine ok_ite (fun h_7 => ?_) (fun h_8 => ?_)
    · unfold F_X7_isLetter_24
      exact ok_some pb1
    · unfold F_X7_isLetter_12
      refine ok_ite (fun h_9 => ?_) (fun h_10 => ?_)
      · unfold F_X7_isLetter_28
        exact ok_some pb0
      · refine ok_ite (fun h_11 => ?_) (fun h_12 => ?_)
        · unfold F_X7_isLetter_28
          exact ok_some pb0
        · unfold F_X7_isLetter_24
          exact ok_some pb1
theorem T_X7_splitWord {s : mG} (hI : IC s) : ok (F_X7_splitWord s) (RC true s) := by
  have hR : RC true s s := RC_refl hI
  unfold F_X7_splitWord
  unfold F_X7_splitWord_L5
  refine ok_whl (fun v => (s.1 55 13) = v.1 ∧ RC true s v.2) (fun v => mUp (v.2.1 55 13)) ⟨rfl, hR⟩ (fun v hv => ?_)
  obtain ⟨x_4, s_5⟩ := v
  obtain ⟨rfl, rhs_6⟩ := hv
  have hs_6 : RC true s s_5 := rhs_6
  show ok (F_X7_splitWord_B5 (s.1 55 13) s_5) _
  unfold F_X7_splitWord_B5
  refine ok_ite (fun h_7 => ?_) (fun h_8 => ?_)
  · refine ok_b1r ?_
    unfold F_X7_splitWord_46
    refine ok_b1 (T_X7_wordNumber hs_6.1) (fun v_9 _ => ?_)
    refine ok_ite (fun h_11 => ?_) (fun h_12 => ?_)
    · unfold F_X7_splitWord_68
      refine ok_b1 (ok_tr hs_6 (T_X7_addToken hs_6.1)) (fun s_13 (hs_14 : RC true s s_13) => ?_)
      exact ok_some hs_14
    · unfold F_X7_splitWord_68
      refine ok_b1 (ok_tr hs_6 (T_X7_addToken hs_6.1)) (fun s_15 (hs_16 : RC true s s_15) => ?_)
      exact ok_some hs_16
  · refine ok_b1 (T_X11_cell sh64 hs_6.1) (fun v_17 _ => ?_)
    refine ok_b1 (T_X7_isLetter hs_6.1) (fun v_19 (hv_20 : PB v_19) => ?_)
    refine ok_ite (fun h_21 => ?_) (fun h_22 => ?_)
    · refine ok_b1r ?_
      unfold F_X7_splitWord_46
      refine ok_b1 (T_X7_wordNumber hs_6.1) (fun v_23 _ => ?_)
      refine ok_ite (fun h_25 => ?_) (fun h_26 => ?_)
      · unfold F_X7_splitWord_68
        refine ok_b1 (ok_tr hs_6 (T_X7_addToken hs_6.1)) (fun s_27 (hs_28 : RC true s s_27) => ?_)
        exact ok_some hs_28
      · unfold F_X7_splitWord_68
        refine ok_b1 (ok_tr hs_6 (T_X7_addToken hs_6.1)) (fun s_29 (hs_30 : RC true s s_29) => ?_)
        exact ok_some hs_30
    · extract_lets +onlyGivenNames s_31
      have hm_33 : mUp (s_31.1 55 13) < mUp (s_5.1 55 13) := by
        rw [show s_31.1 55 13 = s_5.1 55 13 + ci 1 from mu_sameP]
        exact up_t (ge_t h_8)
      have hs_32 : RC true s s_31 := (RC_mu hs_6 (by decide))
      clear_value s_31
      exact ok_some (lp_inl ⟨rfl, hs_32⟩ hm_33)
theorem T_X7_isDigit {s : mG} {a1 : Int32} (hI : IC s) : ok (F_X7_isDigit s a1) PB := by
  have hR : RC true s s := RC_refl hI
  unfold F_X7_isDigit
  refine ok_ite (fun h_1 => ?_) (fun h_2 => ?_)
  · unfold F_X7_isDigit_16
    exact ok_some pb0
  · refine ok_ite (fun h_3 => ?_) (fun h_4 => ?_)
    · unfold F_X7_isDigit_16
      exact ok_some pb0
    · exact ok_some pb1
theorem T_X7_splitNumber {s : mG} (hI : IC s) : ok (F_X7_splitNumber s) (RC true s) := by
  have hR : RC true s s := RC_refl hI
  unfold F_X7_splitNumber
  unfold F_X7_splitNumber_L7
  refine ok_whl (fun v => (s.1 55 13) = v.1 ∧ RC true s v.2.2) (fun v => mUp (v.2.2.1 55 13)) ⟨rfl, hR⟩ (fun v hv => ?_)
  obtain ⟨x_6, x_7, s_8⟩ := v
  obtain ⟨rfl, rhs_9⟩ := hv
  have hs_9 : RC true s s_8 := rhs_9
  show ok (F_X7_splitNumber_B7 (s.1 55 13) x_7 s_8) _
  unfold F_X7_splitNumber_B7
  refine ok_ite (fun h_10 => ?_) (fun h_11 => ?_)
  · refine ok_b1r ?_
    unfold F_X7_splitNumber_82
    refine ok_ite (fun h_12 => ?_) (fun h_13 => ?_)
    · unfold F_X7_splitNumber_100
      refine ok_b1 (ok_tr hs_9 (T_X7_addToken hs_9.1)) (fun s_14 (hs_15 : RC true s s_14) => ?_)
      exact ok_some hs_15
    · unfold F_X7_splitNumber_100
      refine ok_b1 (ok_tr hs_9 (T_X7_addToken hs_9.1)) (fun s_16 (hs_17 : RC true s s_16) => ?_)
      exact ok_some hs_17
  · refine ok_b1 (T_X11_cell sh64 hs_9.1) (fun v_18 _ => ?_)
    refine ok_b1 (T_X7_isDigit hs_9.1) (fun v_20 (hv_21 : PB v_20) => ?_)
    refine ok_ite (fun h_22 => ?_) (fun h_23 => ?_)
    · refine ok_b1r ?_
      unfold F_X7_splitNumber_82
      refine ok_ite (fun h_24 => ?_) (fun h_25 => ?_)
      · unfold F_X7_splitNumber_100
        refine ok_b1 (ok_tr hs_9 (T_X7_addToken hs_9.1)) (fun s_26 (hs_27 : RC true s s_26) => ?_)
        exact ok_some hs_27
      · unfold F_X7_splitNumber_100
        refine ok_b1 (ok_tr hs_9 (T_X7_addToken hs_9.1)) (fun s_28 (hs_29 : RC true s s_28) => ?_)
        exact ok_some hs_29
    · refine ok_ite (fun h_30 => ?_) (fun h_31 => ?_)
      · unfold F_X7_splitNumber_68
        extract_lets +onlyGivenNames s_32
        have hm_34 : mUp (s_32.1 55 13) < mUp (s_8.1 55 13) := by
          rw [show s_32.1 55 13 = s_8.1 55 13 + ci 1 from mu_sameP]
          exact up_t (ge_t h_11)
        have hs_33 : RC true s s_32 := (RC_mu hs_9 (by decide))
        clear_value s_32
        exact ok_some (lp_inl ⟨rfl, hs_33⟩ hm_34)
      · refine ok_b1 (T_X11_cell sh64 hs_9.1) (fun v_35 _ => ?_)
        unfold F_X7_splitNumber_68
        extract_lets +onlyGivenNames s_37
        have hm_39 : mUp (s_37.1 55 13) < mUp (s_8.1 55 13) := by
          rw [show s_37.1 55 13 = s_8.1 55 13 + ci 1 from mu_sameP]
          exact up_t (ge_t h_11)
        have hs_38 : RC true s s_37 := (RC_mu hs_9 (by decide))
        clear_value s_37
        exact ok_some (lp_inl ⟨rfl, hs_38⟩ hm_39)
theorem T_X7_splitTape {s : mG} (hI : IC s) : ok (F_X7_splitTape s) (RC true s) := by
  have hR : RC true s s := RC_refl hI
  unfold F_X7_splitTape
  refine ok_b1 (ok_tr hR (T_X10_clear isT_65 hR.1)) (fun s_1 (hs_2 : RC true s s_1) => ?_)
  extract_lets +onlyGivenNames s_3
  have hs_4 : RC true s s_3 := (RC_mu hs_2 (by decide))
  clear_value s_3
  unfold F_X7_splitTape_L14
  refine ok_whl (fun v => RC true s v.2 ∧ ¬ v.1 < 0) (fun v => mUp v.1) ⟨hs_4, nn0⟩ (fun v hv => ?_)
  obtain ⟨x_14, s_15⟩ := v
  obtain ⟨rhs_16, rhn_17⟩ := hv
  have hs_16 : RC true s s_15 := rhs_16
  have hn_17 : ¬ x_14 < 0 := rhn_17
  show ok (F_X7_splitTape_B14 x_14 s_15) _
  unfold F_X7_splitTape_B14
  refine ok_ite (fun h_18 => ?_) (fun h_19 => ?_)
  · refine ok_b1r ?_
    unfold F_X7_splitTape_94
    refine ok_b1 (ok_tr hs_16 (T_X7_addToken hs_16.1)) (fun s_20 (hs_21 : RC true s s_20) => ?_)
    exact ok_some hs_21
  · refine ok_b2 (ok_tr3 hs_16 (T_X7_skipBlanks hs_16.1)) (fun v_22 s_23 (hs_24 : PB v_22 ∧ RC true s s_23) => ?_)
    refine ok_ite (fun h_25 => ?_) (fun h_26 => ?_)
    · refine ok_b1r ?_
      unfold F_X7_splitTape_94
      refine ok_b1 (ok_tr hs_24.2 (T_X7_addToken hs_24.2.1)) (fun s_27 (hs_28 : RC true s s_27) => ?_)
      exact ok_some hs_28
    · refine ok_b1 (T_X11_cell sh64 hs_24.2.1) (fun v_29 _ => ?_)
      refine ok_b1 (T_X7_isLetter hs_24.2.1) (fun v_31 (hv_32 : PB v_31) => ?_)
      refine ok_ite (fun h_33 => ?_) (fun h_34 => ?_)
      · refine ok_b1 (T_X7_isDigit hs_24.2.1) (fun v_35 (hv_36 : PB v_35) => ?_)
        refine ok_ite (fun h_37 => ?_) (fun h_38 => ?_)
        · refine ok_b1 (ok_tr hs_24.2 (T_X7_addToken hs_24.2.1)) (fun s_39 (hs_40 : RC true s s_39) => ?_)
          extract_lets +onlyGivenNames s_41
          have hs_42 : RC true s s_41 := (RC_mu hs_40 (by decide))
          clear_value s_41
          unfold F_X7_splitTape_88
          exact ok_some (lp_inl ⟨hs_42, (up_nn hn_17 (ge_t h_19))⟩ (up_t (ge_t h_19)))
        · refine ok_b1 (ok_tr hs_24.2 (T_X7_splitNumber hs_24.2.1)) (fun s_43 (hs_44 : RC true s s_43) => ?_)
          unfold F_X7_splitTape_88
          exact ok_some (lp_inl ⟨hs_44, (up_nn hn_17 (ge_t h_19))⟩ (up_t (ge_t h_19)))
      · refine ok_b1 (ok_tr hs_24.2 (T_X7_splitWord hs_24.2.1)) (fun s_45 (hs_46 : RC true s s_45) => ?_)
        unfold F_X7_splitTape_88
        exact ok_some (lp_inl ⟨hs_46, (up_nn hn_17 (ge_t h_19))⟩ (up_t (ge_t h_19)))
theorem T_X7_refuse {a1 : Int32} {s : mG} (hI : IC s) : ok (F_X7_refuse a1 s) (fun τ => PB τ.1 ∧ RC true s τ.2) := by
  have hR : RC true s s := RC_refl hI
  unfold F_X7_refuse
  extract_lets +onlyGivenNames s_1
  have hs_2 : RC true s s_1 := (RC_mu hR (by decide))
  clear_value s_1
  extract_lets +onlyGivenNames s_3
  have hs_4 : RC true s s_3 := (RC_mu hs_2 (by decide))
  clear_value s_3
  exact ok_some ⟨pb0, hs_4⟩
theorem T_X7_pass {a1 : Int32} {s : mG} (hI : IC s) : ok (F_X7_pass a1 s) (fun τ => PB τ.1 ∧ RC true s τ.2) := by
  have hR : RC true s s := RC_refl hI
  unfold F_X7_pass
  refine ok_ite (fun h_1 => ?_) (fun h_2 => ?_)
  · refine ok_b1 (ok_tr hR (T_X7_stepOn hR.1)) (fun s_3 (hs_4 : RC true s s_3) => ?_)
    exact ok_some ⟨pb1, hs_4⟩
  · refine ok_b2 (ok_tr3 hR (T_X7_refuse hR.1)) (fun v_5 s_6 (hs_7 : PB v_5 ∧ RC true s s_6) => ?_)
    refine ok_pp hs_7.1 ?_
    exact ok_some ⟨hs_7.1, hs_7.2⟩
theorem T_X7_readHead {a2 : Nat} {a1 : Int32} {s : mG} (h_a2 : isT a2) (hI : IC s) : ok (F_X7_readHead a2 a1 s) (fun τ => PB τ.1 ∧ RC true s τ.2) := by
  have hR : RC true s s := RC_refl hI
  unfold F_X7_readHead
  refine ok_ite (fun h_1 => ?_) (fun h_2 => ?_)
  · refine ok_b2 (ok_tr2 hR (T_X10_add h_a2 hR.1)) (fun v_3 s_4 (hs_5 : RC true s s_4) => ?_)
    refine ok_ite (fun h_6 => ?_) (fun h_7 => ?_)
    · refine ok_b2 (ok_tr3 hs_5 (T_X7_refuse hs_5.1)) (fun v_8 s_9 (hs_10 : PB v_8 ∧ RC true s s_9) => ?_)
      refine ok_ite (fun h_11 => ?_) (fun h_12 => ?_)
      · exact ok_some ⟨pb0, hs_10.2⟩
      · unfold F_X7_readHead_30
        exact ok_some ⟨pb1, hs_10.2⟩
    · unfold F_X7_readHead_30
      exact ok_some ⟨pb1, hs_5⟩
  · refine ok_b2 (ok_tr3 hR (T_X7_refuse hR.1)) (fun v_13 s_14 (hs_15 : PB v_13 ∧ RC true s s_14) => ?_)
    refine ok_pp hs_15.1 ?_
    exact ok_some ⟨hs_15.1, hs_15.2⟩
/-! X11_isWithin: by hand -/
def wi (a b c : Int32) : Int32 := if a < b then ci 0 else if c < a then ci 0 else ci 1
theorem F_isWithin {s : mG} {a b c : Int32} : F_X11_isWithin s a b c = some (wi a b c) := by
  unfold F_X11_isWithin wi
  by_cases h1 : a < b
  · rw [if_pos h1, if_pos h1]; rfl
  · rw [if_neg h1, if_neg h1]
    by_cases h2 : c < a
    · rw [if_pos h2, if_pos h2]; rfl
    · rw [if_neg h2, if_neg h2]
theorem wi_b (a b c : Int32) : PB (wi a b c) := by
  unfold wi
  by_cases h1 : a < b
  · rw [if_pos h1]; exact pb0
  · rw [if_neg h1]
    by_cases h2 : c < a
    · rw [if_pos h2]; exact pb0
    · rw [if_neg h2]; exact pb1
theorem T_X11_isWithin {s : mG} {a1 a2 a3 : Int32} (hI : IC s) : ok (F_X11_isWithin s a1 a2 a3) PB := ⟨_, F_isWithin, wi_b _ _ _⟩
theorem T_X7_readNamed {a4 : Nat} {a1 : Int32} {a2 : Int32} {a3 : Int32} {a5 : Int32} {s : mG} (h_a4 : isT a4) (hI : IC s) : ok (F_X7_readNamed a4 a1 a2 a3 a5 s) (fun τ => PB τ.1 ∧ RC true s τ.2) := by
  have hR : RC true s s := RC_refl hI
  unfold F_X7_readNamed
  refine ok_b2 (ok_tr3 hR (T_X7_pass hR.1)) (fun v_1 s_2 (hs_3 : PB v_1 ∧ RC true s s_2) => ?_)
  refine ok_ite (fun h_4 => ?_) (fun h_5 => ?_)
  · exact ok_some ⟨pb0, hs_3.2⟩
  · refine ok_ite (fun h_6 => ?_) (fun h_7 => ?_)
    · refine ok_b1 (T_X11_isWithin hs_3.2.1) (fun v_8 (hv_9 : PB v_8) => ?_)
      refine ok_ite (fun h_10 => ?_) (fun h_11 => ?_)
      · refine ok_b2 (ok_tr3 hs_3.2 (T_X7_refuse hs_3.2.1)) (fun v_12 s_13 (hs_14 : PB v_12 ∧ RC true s s_13) => ?_)
        refine ok_pp hs_14.1 ?_
        exact ok_some ⟨hs_14.1, hs_14.2⟩
      · refine ok_b1 (ok_tr hs_3.2 (T_X10_put h_a4 hs_3.2.1)) (fun s_15 (hs_16 : RC true s s_15) => ?_)
        refine ok_b1 (ok_tr hs_16 (T_X7_stepOn hs_16.1)) (fun s_17 (hs_18 : RC true s s_17) => ?_)
        exact ok_some ⟨pb1, hs_18⟩
    · refine ok_b2 (ok_tr3 hs_3.2 (T_X7_refuse hs_3.2.1)) (fun v_19 s_20 (hs_21 : PB v_19 ∧ RC true s s_20) => ?_)
      refine ok_pp hs_21.1 ?_
      exact ok_some ⟨hs_21.1, hs_21.2⟩
theorem T_X7_readSign {s : mG} (hI : IC s) : ok (F_X7_readSign s) (fun τ => PB τ.1 ∧ RC true s τ.2) := by
  have hR : RC true s s := RC_refl hI
  unfold F_X7_readSign
  refine ok_b2 (ok_tr3 hR (T_X7_readHead isT_60 hR.1)) (fun v_1 s_2 (hs_3 : PB v_1 ∧ RC true s s_2) => ?_)
  refine ok_ite (fun h_4 => ?_) (fun h_5 => ?_)
  · exact ok_some ⟨pb0, hs_3.2⟩
  · refine ok_b1 (ok_tr hs_3.2 (T_X7_stepOn hs_3.2.1)) (fun s_6 (hs_7 : RC true s s_6) => ?_)
    refine ok_b2 (ok_tr3 hs_7 (T_X7_readNamed isT_60 hs_7.1)) (fun v_8 s_9 (hs_10 : PB v_8 ∧ RC true s s_9) => ?_)
    refine ok_ite (fun h_11 => ?_) (fun h_12 => ?_)
    · unfold F_X7_readSign_71
      exact ok_some ⟨pb0, hs_10.2⟩
    · refine ok_b2 (ok_tr3 hs_10.2 (T_X7_readNamed isT_60 hs_10.2.1)) (fun v_13 s_14 (hs_15 : PB v_13 ∧ RC true s s_14) => ?_)
      refine ok_ite (fun h_16 => ?_) (fun h_17 => ?_)
      · unfold F_X7_readSign_71
        exact ok_some ⟨pb0, hs_15.2⟩
      · refine ok_b2 (ok_tr3 hs_15.2 (T_X7_pass hs_15.2.1)) (fun v_18 s_19 (hs_20 : PB v_18 ∧ RC true s s_19) => ?_)
        refine ok_ite (fun h_21 => ?_) (fun h_22 => ?_)
        · unfold F_X7_readSign_71
          exact ok_some ⟨pb0, hs_20.2⟩
        · exact ok_some ⟨pb1, hs_20.2⟩
theorem T_X7_readShift {s : mG} (hI : IC s) : ok (F_X7_readShift s) (fun τ => PB τ.1 ∧ RC true s τ.2) := by
  have hR : RC true s s := RC_refl hI
  unfold F_X7_readShift
  refine ok_b2 (ok_tr3 hR (T_X7_readHead isT_62 hR.1)) (fun v_1 s_2 (hs_3 : PB v_1 ∧ RC true s s_2) => ?_)
  refine ok_ite (fun h_4 => ?_) (fun h_5 => ?_)
  · unfold F_X7_readShift_97
    exact ok_some ⟨pb0, hs_3.2⟩
  · refine ok_b2 (ok_tr3 hs_3.2 (T_X7_readNamed isT_62 hs_3.2.1)) (fun v_6 s_7 (hs_8 : PB v_6 ∧ RC true s s_7) => ?_)
    refine ok_ite (fun h_9 => ?_) (fun h_10 => ?_)
    · unfold F_X7_readShift_97
      exact ok_some ⟨pb0, hs_8.2⟩
    · refine ok_b2 (ok_tr3 hs_8.2 (T_X7_readNamed isT_62 hs_8.2.1)) (fun v_11 s_12 (hs_13 : PB v_11 ∧ RC true s s_12) => ?_)
      refine ok_ite (fun h_14 => ?_) (fun h_15 => ?_)
      · unfold F_X7_readShift_97
        exact ok_some ⟨pb0, hs_13.2⟩
      · refine ok_b2 (ok_tr3 hs_13.2 (T_X7_readNamed isT_62 hs_13.2.1)) (fun v_16 s_17 (hs_18 : PB v_16 ∧ RC true s s_17) => ?_)
        refine ok_ite (fun h_19 => ?_) (fun h_20 => ?_)
        · unfold F_X7_readShift_97
          exact ok_some ⟨pb0, hs_18.2⟩
        · refine ok_b2 (ok_tr3 hs_18.2 (T_X7_readNamed isT_62 hs_18.2.1)) (fun v_21 s_22 (hs_23 : PB v_21 ∧ RC true s s_22) => ?_)
          refine ok_ite (fun h_24 => ?_) (fun h_25 => ?_)
          · unfold F_X7_readShift_97
            exact ok_some ⟨pb0, hs_23.2⟩
          · refine ok_b2 (ok_tr3 hs_23.2 (T_X7_pass hs_23.2.1)) (fun v_26 s_27 (hs_28 : PB v_26 ∧ RC true s s_27) => ?_)
            refine ok_ite (fun h_29 => ?_) (fun h_30 => ?_)
            · unfold F_X7_readShift_97
              exact ok_some ⟨pb0, hs_28.2⟩
            · exact ok_some ⟨pb1, hs_28.2⟩
theorem T_X7_isReckoning {s : mG} {a1 : Int32} (hI : IC s) : ok (F_X7_isReckoning s a1) PB := by
  have hR : RC true s s := RC_refl hI
  unfold F_X7_isReckoning
  refine ok_ite (fun h_1 => ?_) (fun h_2 => ?_)
  · unfold F_X7_isReckoning_24
    exact ok_some pb1
  · refine ok_ite (fun h_3 => ?_) (fun h_4 => ?_)
    · unfold F_X7_isReckoning_24
      exact ok_some pb1
    · refine ok_ite (fun h_5 => ?_) (fun h_6 => ?_)
      · unfold F_X7_isReckoning_24
        exact ok_some pb1
      · refine ok_ite (fun h_7 => ?_) (fun h_8 => ?_)
        · unfold F_X7_isReckoning_24
          exact ok_some pb1
        · exact ok_some pb0
theorem T_X10_push {t : Nat} {a1 : Int32} {s : mG} (h_t : isT t) (hI : IC s) : ok (F_X10_push t a1 s) (RC true s) := by
  have hR : RC true s s := RC_refl hI
  unfold F_X10_push
  refine ok_ite (fun h_1 => ?_) (fun h_2 => ?_)
  · exact ok_some hR
  · extract_lets +onlyGivenNames s_3
    have hs_4 : RC true s s_3 := (RC_rows hR h_t (rows_add hI (t_nle h_2)))
    clear_value s_3
    refine ok_b1 (ok_tr hs_4 (T_X10_put h_t hs_4.1)) (fun s_5 (hs_6 : RC true s s_5) => ?_)
    exact ok_some hs_6
theorem T_X7_emitIfAny {a1 : Int32} {s : mG} (hI : IC s) : ok (F_X7_emitIfAny a1 s) (RC true s) := by
  have hR : RC true s s := RC_refl hI
  unfold F_X7_emitIfAny
  refine ok_ite (fun h_1 => ?_) (fun h_2 => ?_)
  · exact ok_some hR
  · refine ok_b1 (ok_tr hR (T_X10_push isT_58 hR.1)) (fun s_3 (hs_4 : RC true s s_3) => ?_)
    exact ok_some hs_4
theorem T_X7_readUnit {s : mG} (hI : IC s) : ok (F_X7_readUnit s) (fun τ => PB τ.1 ∧ RC true s τ.2) := by
  have hR : RC true s s := RC_refl hI
  unfold F_X7_readUnit
  extract_lets +onlyGivenNames v_1
  clear_value v_1
  refine ok_ite (fun h_2 => ?_) (fun h_3 => ?_)
  · refine ok_b1 (ok_tr hR (T_X10_push isT_58 hR.1)) (fun s_4 (hs_5 : RC true s s_4) => ?_)
    unfold F_X7_readUnit_68
    refine ok_b1 (ok_tr hs_5 (T_X7_stepOn hs_5.1)) (fun s_6 (hs_7 : RC true s s_6) => ?_)
    exact ok_some ⟨pb1, hs_7⟩
  · refine ok_ite (fun h_8 => ?_) (fun h_9 => ?_)
    · unfold F_X7_readUnit_62
      refine ok_b2 (ok_tr3 hR (T_X7_refuse hR.1)) (fun v_10 s_11 (hs_12 : PB v_10 ∧ RC true s s_11) => ?_)
      refine ok_pp hs_12.1 ?_
      exact ok_some ⟨hs_12.1, hs_12.2⟩
    · refine ok_ite (fun h_13 => ?_) (fun h_14 => ?_)
      · unfold F_X7_readUnit_62
        refine ok_b2 (ok_tr3 hR (T_X7_refuse hR.1)) (fun v_15 s_16 (hs_17 : PB v_15 ∧ RC true s s_16) => ?_)
        refine ok_pp hs_17.1 ?_
        exact ok_some ⟨hs_17.1, hs_17.2⟩
      · refine ok_b1 (ok_tr hR (T_X10_push isT_58 hR.1)) (fun s_18 (hs_19 : RC true s s_18) => ?_)
        unfold F_X7_readUnit_68
        refine ok_b1 (ok_tr hs_19 (T_X7_stepOn hs_19.1)) (fun s_20 (hs_21 : RC true s s_20) => ?_)
        exact ok_some ⟨pb1, hs_21⟩
theorem T_X7_readPart {s : mG} (hI : IC s) : ok (F_X7_readPart s) (fun τ => PB τ.1 ∧ RC true s τ.2) := by
  have hR : RC true s s := RC_refl hI
  unfold F_X7_readPart
  refine ok_ite (fun h_1 => ?_) (fun h_2 => ?_)
  · refine ok_ite (fun h_3 => ?_) (fun h_4 => ?_)
    · refine ok_b2 (ok_tr3 hR (T_X7_refuse hR.1)) (fun v_5 s_6 (hs_7 : PB v_5 ∧ RC true s s_6) => ?_)
      refine ok_pp hs_7.1 ?_
      exact ok_some ⟨hs_7.1, hs_7.2⟩
    · refine ok_b1 (ok_tr hR (T_X10_push isT_58 hR.1)) (fun s_8 (hs_9 : RC true s s_8) => ?_)
      refine ok_b1 (ok_tr hs_9 (T_X7_stepOn hs_9.1)) (fun s_10 (hs_11 : RC true s s_10) => ?_)
      exact ok_some ⟨pb1, hs_11⟩
  · refine ok_b2 (ok_tr3 hR (T_X7_refuse hR.1)) (fun v_12 s_13 (hs_14 : PB v_12 ∧ RC true s s_13) => ?_)
    refine ok_pp hs_14.1 ?_
    exact ok_some ⟨hs_14.1, hs_14.2⟩
theorem T_X7_readSum {s : mG} (hI : IC s) : ok (F_X7_readSum s) (fun τ => PB τ.1 ∧ RC true s τ.2) := by
  have hR : RC true s s := RC_refl hI
  unfold F_X7_readSum
  refine ok_b2 (ok_tr3 hR (T_X7_readUnit hR.1)) (fun v_1 s_2 (hs_3 : PB v_1 ∧ RC true s s_2) => ?_)
  refine ok_ite (fun h_4 => ?_) (fun h_5 => ?_)
  · exact ok_some ⟨pb0, hs_3.2⟩
  · unfold F_X7_readSum_L13
    refine ok_whl (fun v => RC true s v.2.2 ∧ ¬ v.2.1 < 0) (fun v => mUp v.2.1) ⟨hs_3.2, nn0⟩ (fun v hv => ?_)
    obtain ⟨x_50, x_51, s_52⟩ := v
    obtain ⟨rhs_53, rhn_54⟩ := hv
    have hs_53 : RC true s s_52 := rhs_53
    have hn_54 : ¬ x_51 < 0 := rhn_54
    show ok (F_X7_readSum_B13 x_50 x_51 s_52) _
    unfold F_X7_readSum_B13
    refine ok_ite (fun h_55 => ?_) (fun h_56 => ?_)
    · refine ok_b1r ?_
      unfold F_X7_readSum_114
      refine ok_b1 (ok_tr hs_53 (T_X7_emitIfAny hs_53.1)) (fun s_57 (hs_58 : RC true s s_57) => ?_)
      exact ok_some ⟨pb1, hs_58⟩
    · refine ok_b1 (T_X7_isReckoning hs_53.1) (fun v_59 (hv_60 : PB v_59) => ?_)
      refine ok_ite (fun h_61 => ?_) (fun h_62 => ?_)
      · refine ok_b1r ?_
        unfold F_X7_readSum_114
        refine ok_b1 (ok_tr hs_53 (T_X7_emitIfAny hs_53.1)) (fun s_63 (hs_64 : RC true s s_63) => ?_)
        exact ok_some ⟨pb1, hs_64⟩
      · refine ok_b1 (ok_tr hs_53 (T_X7_stepOn hs_53.1)) (fun s_65 (hs_66 : RC true s s_65) => ?_)
        refine ok_ite (fun h_67 => ?_) (fun h_68 => ?_)
        · unfold F_X7_readSum_51
          refine ok_b1 (ok_tr hs_66 (T_X7_emitIfAny hs_66.1)) (fun s_69 (hs_70 : RC true s s_69) => ?_)
          refine ok_ite (fun h_71 => ?_) (fun h_72 => ?_)
          · unfold F_X7_readSum_67
            unfold F_X7_readSum_68
            refine ok_ite (fun h_73 => ?_) (fun h_74 => ?_)
            · refine ok_b2 (ok_tr3 hs_70 (T_X7_readPart hs_70.1)) (fun v_75 s_76 (hs_77 : PB v_75 ∧ RC true s s_76) => ?_)
              refine ok_ite (fun h_78 => ?_) (fun h_79 => ?_)
              · refine ok_b1r ?_
                unfold F_X7_readSum_91
                exact ok_some ⟨pb0, hs_77.2⟩
              · unfold F_X7_readSum_93
                refine ok_ite (fun h_80 => ?_) (fun h_81 => ?_)
                · unfold F_X7_readSum_105
                  refine ok_b1 (ok_tr hs_77.2 (T_X7_emitIfAny hs_77.2.1)) (fun s_82 (hs_83 : RC true s s_82) => ?_)
                  exact ok_some (lp_inl ⟨hs_83, (up_nn hn_54 (ge_t h_56))⟩ (up_t (ge_t h_56)))
                · unfold F_X7_readSum_105
                  refine ok_b1 (ok_tr hs_77.2 (T_X7_emitIfAny hs_77.2.1)) (fun s_84 (hs_85 : RC true s s_84) => ?_)
                  exact ok_some (lp_inl ⟨hs_85, (up_nn hn_54 (ge_t h_56))⟩ (up_t (ge_t h_56)))
            · refine ok_b2 (ok_tr3 hs_70 (T_X7_readUnit hs_70.1)) (fun v_86 s_87 (hs_88 : PB v_86 ∧ RC true s s_87) => ?_)
              refine ok_ite (fun h_89 => ?_) (fun h_90 => ?_)
              · refine ok_b1r ?_
                unfold F_X7_readSum_91
                exact ok_some ⟨pb0, hs_88.2⟩
              · unfold F_X7_readSum_93
                refine ok_ite (fun h_91 => ?_) (fun h_92 => ?_)
                · unfold F_X7_readSum_105
                  refine ok_b1 (ok_tr hs_88.2 (T_X7_emitIfAny hs_88.2.1)) (fun s_93 (hs_94 : RC true s s_93) => ?_)
                  exact ok_some (lp_inl ⟨hs_94, (up_nn hn_54 (ge_t h_56))⟩ (up_t (ge_t h_56)))
                · unfold F_X7_readSum_105
                  refine ok_b1 (ok_tr hs_88.2 (T_X7_emitIfAny hs_88.2.1)) (fun s_95 (hs_96 : RC true s s_95) => ?_)
                  exact ok_some (lp_inl ⟨hs_96, (up_nn hn_54 (ge_t h_56))⟩ (up_t (ge_t h_56)))
          · unfold F_X7_readSum_67
            unfold F_X7_readSum_68
            refine ok_ite (fun h_97 => ?_) (fun h_98 => ?_)
            · refine ok_b2 (ok_tr3 hs_70 (T_X7_readPart hs_70.1)) (fun v_99 s_100 (hs_101 : PB v_99 ∧ RC true s s_100) => ?_)
              refine ok_ite (fun h_102 => ?_) (fun h_103 => ?_)
              · refine ok_b1r ?_
                unfold F_X7_readSum_91
                exact ok_some ⟨pb0, hs_101.2⟩
              · unfold F_X7_readSum_93
                refine ok_ite (fun h_104 => ?_) (fun h_105 => ?_)
                · unfold F_X7_readSum_105
                  refine ok_b1 (ok_tr hs_101.2 (T_X7_emitIfAny hs_101.2.1)) (fun s_106 (hs_107 : RC true s s_106) => ?_)
                  exact ok_some (lp_inl ⟨hs_107, (up_nn hn_54 (ge_t h_56))⟩ (up_t (ge_t h_56)))
                · unfold F_X7_readSum_105
                  refine ok_b1 (ok_tr hs_101.2 (T_X7_emitIfAny hs_101.2.1)) (fun s_108 (hs_109 : RC true s s_108) => ?_)
                  exact ok_some (lp_inl ⟨hs_109, (up_nn hn_54 (ge_t h_56))⟩ (up_t (ge_t h_56)))
            · refine ok_b2 (ok_tr3 hs_70 (T_X7_readUnit hs_70.1)) (fun v_110 s_111 (hs_112 : PB v_110 ∧ RC true s s_111) => ?_)
              refine ok_ite (fun h_113 => ?_) (fun h_114 => ?_)
              · refine ok_b1r ?_
                unfold F_X7_readSum_91
                exact ok_some ⟨pb0, hs_112.2⟩
              · unfold F_X7_readSum_93
                refine ok_ite (fun h_115 => ?_) (fun h_116 => ?_)
                · unfold F_X7_readSum_105
                  refine ok_b1 (ok_tr hs_112.2 (T_X7_emitIfAny hs_112.2.1)) (fun s_117 (hs_118 : RC true s s_117) => ?_)
                  exact ok_some (lp_inl ⟨hs_118, (up_nn hn_54 (ge_t h_56))⟩ (up_t (ge_t h_56)))
                · unfold F_X7_readSum_105
                  refine ok_b1 (ok_tr hs_112.2 (T_X7_emitIfAny hs_112.2.1)) (fun s_119 (hs_120 : RC true s s_119) => ?_)
                  exact ok_some (lp_inl ⟨hs_120, (up_nn hn_54 (ge_t h_56))⟩ (up_t (ge_t h_56)))
        · refine ok_ite (fun h_121 => ?_) (fun h_122 => ?_)
          · unfold F_X7_readSum_51
            refine ok_b1 (ok_tr hs_66 (T_X7_emitIfAny hs_66.1)) (fun s_123 (hs_124 : RC true s s_123) => ?_)
            refine ok_ite (fun h_125 => ?_) (fun h_126 => ?_)
            · unfold F_X7_readSum_67
              unfold F_X7_readSum_68
              refine ok_ite (fun h_127 => ?_) (fun h_128 => ?_)
              · refine ok_b2 (ok_tr3 hs_124 (T_X7_readPart hs_124.1)) (fun v_129 s_130 (hs_131 : PB v_129 ∧ RC true s s_130) => ?_)
                refine ok_ite (fun h_132 => ?_) (fun h_133 => ?_)
                · refine ok_b1r ?_
                  unfold F_X7_readSum_91
                  exact ok_some ⟨pb0, hs_131.2⟩
                · unfold F_X7_readSum_93
                  refine ok_ite (fun h_134 => ?_) (fun h_135 => ?_)
                  · unfold F_X7_readSum_105
                    refine ok_b1 (ok_tr hs_131.2 (T_X7_emitIfAny hs_131.2.1)) (fun s_136 (hs_137 : RC true s s_136) => ?_)
                    exact ok_some (lp_inl ⟨hs_137, (up_nn hn_54 (ge_t h_56))⟩ (up_t (ge_t h_56)))
                  · unfold F_X7_readSum_105
                    refine ok_b1 (ok_tr hs_131.2 (T_X7_emitIfAny hs_131.2.1)) (fun s_138 (hs_139 : RC true s s_138) => ?_)
                    exact ok_some (lp_inl ⟨hs_139, (up_nn hn_54 (ge_t h_56))⟩ (up_t (ge_t h_56)))
              · refine ok_b2 (ok_tr3 hs_124 (T_X7_readUnit hs_124.1)) (fun v_140 s_141 (hs_142 : PB v_140 ∧ RC true s s_141) => ?_)
                refine ok_ite (fun h_143 => ?_) (fun h_144 => ?_)
                · refine ok_b1r ?_
                  unfold F_X7_readSum_91
                  exact ok_some ⟨pb0, hs_142.2⟩
                · unfold F_X7_readSum_93
                  refine ok_ite (fun h_145 => ?_) (fun h_146 => ?_)
                  · unfold F_X7_readSum_105
                    refine ok_b1 (ok_tr hs_142.2 (T_X7_emitIfAny hs_142.2.1)) (fun s_147 (hs_148 : RC true s s_147) => ?_)
                    exact ok_some (lp_inl ⟨hs_148, (up_nn hn_54 (ge_t h_56))⟩ (up_t (ge_t h_56)))
                  · unfold F_X7_readSum_105
                    refine ok_b1 (ok_tr hs_142.2 (T_X7_emitIfAny hs_142.2.1)) (fun s_149 (hs_150 : RC true s s_149) => ?_)
                    exact ok_some (lp_inl ⟨hs_150, (up_nn hn_54 (ge_t h_56))⟩ (up_t (ge_t h_56)))
            · unfold F_X7_readSum_67
              unfold F_X7_readSum_68
              refine ok_ite (fun h_151 => ?_) (fun h_152 => ?_)
              · refine ok_b2 (ok_tr3 hs_124 (T_X7_readPart hs_124.1)) (fun v_153 s_154 (hs_155 : PB v_153 ∧ RC true s s_154) => ?_)
                refine ok_ite (fun h_156 => ?_) (fun h_157 => ?_)
                · refine ok_b1r ?_
                  unfold F_X7_readSum_91
                  exact ok_some ⟨pb0, hs_155.2⟩
                · unfold F_X7_readSum_93
                  refine ok_ite (fun h_158 => ?_) (fun h_159 => ?_)
                  · unfold F_X7_readSum_105
                    refine ok_b1 (ok_tr hs_155.2 (T_X7_emitIfAny hs_155.2.1)) (fun s_160 (hs_161 : RC true s s_160) => ?_)
                    exact ok_some (lp_inl ⟨hs_161, (up_nn hn_54 (ge_t h_56))⟩ (up_t (ge_t h_56)))
                  · unfold F_X7_readSum_105
                    refine ok_b1 (ok_tr hs_155.2 (T_X7_emitIfAny hs_155.2.1)) (fun s_162 (hs_163 : RC true s s_162) => ?_)
                    exact ok_some (lp_inl ⟨hs_163, (up_nn hn_54 (ge_t h_56))⟩ (up_t (ge_t h_56)))
              · refine ok_b2 (ok_tr3 hs_124 (T_X7_readUnit hs_124.1)) (fun v_164 s_165 (hs_166 : PB v_164 ∧ RC true s s_165) => ?_)
                refine ok_ite (fun h_167 => ?_) (fun h_168 => ?_)
                · refine ok_b1r ?_
                  unfold F_X7_readSum_91
                  exact ok_some ⟨pb0, hs_166.2⟩
                · unfold F_X7_readSum_93
                  refine ok_ite (fun h_169 => ?_) (fun h_170 => ?_)
                  · unfold F_X7_readSum_105
                    refine ok_b1 (ok_tr hs_166.2 (T_X7_emitIfAny hs_166.2.1)) (fun s_171 (hs_172 : RC true s s_171) => ?_)
                    exact ok_some (lp_inl ⟨hs_172, (up_nn hn_54 (ge_t h_56))⟩ (up_t (ge_t h_56)))
                  · unfold F_X7_readSum_105
                    refine ok_b1 (ok_tr hs_166.2 (T_X7_emitIfAny hs_166.2.1)) (fun s_173 (hs_174 : RC true s s_173) => ?_)
                    exact ok_some (lp_inl ⟨hs_174, (up_nn hn_54 (ge_t h_56))⟩ (up_t (ge_t h_56)))
          · unfold F_X7_readSum_68
            refine ok_ite (fun h_175 => ?_) (fun h_176 => ?_)
            · refine ok_b2 (ok_tr3 hs_66 (T_X7_readPart hs_66.1)) (fun v_177 s_178 (hs_179 : PB v_177 ∧ RC true s s_178) => ?_)
              refine ok_ite (fun h_180 => ?_) (fun h_181 => ?_)
              · refine ok_b1r ?_
                unfold F_X7_readSum_91
                exact ok_some ⟨pb0, hs_179.2⟩
              · unfold F_X7_readSum_93
                refine ok_ite (fun h_182 => ?_) (fun h_183 => ?_)
                · unfold F_X7_readSum_105
                  refine ok_b1 (ok_tr hs_179.2 (T_X7_emitIfAny hs_179.2.1)) (fun s_184 (hs_185 : RC true s s_184) => ?_)
                  exact ok_some (lp_inl ⟨hs_185, (up_nn hn_54 (ge_t h_56))⟩ (up_t (ge_t h_56)))
                · unfold F_X7_readSum_105
                  refine ok_b1 (ok_tr hs_179.2 (T_X7_emitIfAny hs_179.2.1)) (fun s_186 (hs_187 : RC true s s_186) => ?_)
                  exact ok_some (lp_inl ⟨hs_187, (up_nn hn_54 (ge_t h_56))⟩ (up_t (ge_t h_56)))
            · refine ok_b2 (ok_tr3 hs_66 (T_X7_readUnit hs_66.1)) (fun v_188 s_189 (hs_190 : PB v_188 ∧ RC true s s_189) => ?_)
              refine ok_ite (fun h_191 => ?_) (fun h_192 => ?_)
              · refine ok_b1r ?_
                unfold F_X7_readSum_91
                exact ok_some ⟨pb0, hs_190.2⟩
              · unfold F_X7_readSum_93
                refine ok_ite (fun h_193 => ?_) (fun h_194 => ?_)
                · unfold F_X7_readSum_105
                  refine ok_b1 (ok_tr hs_190.2 (T_X7_emitIfAny hs_190.2.1)) (fun s_195 (hs_196 : RC true s s_195) => ?_)
                  exact ok_some (lp_inl ⟨hs_196, (up_nn hn_54 (ge_t h_56))⟩ (up_t (ge_t h_56)))
                · unfold F_X7_readSum_105
                  refine ok_b1 (ok_tr hs_190.2 (T_X7_emitIfAny hs_190.2.1)) (fun s_197 (hs_198 : RC true s s_197) => ?_)
                  exact ok_some (lp_inl ⟨hs_198, (up_nn hn_54 (ge_t h_56))⟩ (up_t (ge_t h_56)))
theorem T_X7_hold {a1 : Int32} {s : mG} (hI : IC s) : ok (F_X7_hold a1 s) (RC true s) := by
  have hR : RC true s s := RC_refl hI
  unfold F_X7_hold
  refine ok_b1 (ok_tr hR (T_X11_put sh67 (by decide) hR.1)) (fun s_1 (hs_2 : RC true s s_1) => ?_)
  extract_lets +onlyGivenNames s_3
  have hs_4 : RC true s s_3 := (RC_mu hs_2 (by decide))
  clear_value s_3
  exact ok_some hs_4
theorem T_X7_readOpenings {s : mG} (hI : IC s) : ok (F_X7_readOpenings s) (fun τ => PB τ.1 ∧ RC true s τ.2) := by
  have hR : RC true s s := RC_refl hI
  unfold F_X7_readOpenings
  unfold F_X7_readOpenings_L2
  refine ok_whl (fun v => RC true s v.2 ∧ ¬ v.1 < 0) (fun v => mUp v.1) ⟨hR, nn0⟩ (fun v hv => ?_)
  obtain ⟨x_11, s_12⟩ := v
  obtain ⟨rhs_13, rhn_14⟩ := hv
  have hs_13 : RC true s s_12 := rhs_13
  have hn_14 : ¬ x_11 < 0 := rhn_14
  show ok (F_X7_readOpenings_B2 x_11 s_12) _
  unfold F_X7_readOpenings_B2
  refine ok_ite (fun h_15 => ?_) (fun h_16 => ?_)
  · refine ok_b1r ?_
    unfold F_X7_readOpenings_71
    exact ok_some ⟨pb1, hs_13⟩
  · refine ok_ite (fun h_17 => ?_) (fun h_18 => ?_)
    · unfold F_X7_readOpenings_28
      refine ok_ite (fun h_19 => ?_) (fun h_20 => ?_)
      · refine ok_b1 (ok_tr hs_13 (T_X7_hold hs_13.1)) (fun s_21 (hs_22 : RC true s s_21) => ?_)
        extract_lets +onlyGivenNames s_23
        have hs_24 : RC true s s_23 := (RC_mu hs_22 (by decide))
        clear_value s_23
        refine ok_b1 (ok_tr hs_24 (T_X7_stepOn hs_24.1)) (fun s_25 (hs_26 : RC true s s_25) => ?_)
        exact ok_some (lp_inl ⟨hs_26, (up_nn hn_14 (ge_t h_16))⟩ (up_t (ge_t h_16)))
      · refine ok_b2 (ok_tr3 hs_13 (T_X7_refuse hs_13.1)) (fun v_27 s_28 (hs_29 : PB v_27 ∧ RC true s s_28) => ?_)
        refine ok_pp hs_29.1 ?_
        exact ok_some (lp_inr (⟨hs_29.1, hs_29.2⟩))
    · refine ok_ite (fun h_30 => ?_) (fun h_31 => ?_)
      · unfold F_X7_readOpenings_28
        refine ok_ite (fun h_32 => ?_) (fun h_33 => ?_)
        · refine ok_b1 (ok_tr hs_13 (T_X7_hold hs_13.1)) (fun s_34 (hs_35 : RC true s s_34) => ?_)
          extract_lets +onlyGivenNames s_36
          have hs_37 : RC true s s_36 := (RC_mu hs_35 (by decide))
          clear_value s_36
          refine ok_b1 (ok_tr hs_37 (T_X7_stepOn hs_37.1)) (fun s_38 (hs_39 : RC true s s_38) => ?_)
          exact ok_some (lp_inl ⟨hs_39, (up_nn hn_14 (ge_t h_16))⟩ (up_t (ge_t h_16)))
        · refine ok_b2 (ok_tr3 hs_13 (T_X7_refuse hs_13.1)) (fun v_40 s_41 (hs_42 : PB v_40 ∧ RC true s s_41) => ?_)
          refine ok_pp hs_42.1 ?_
          exact ok_some (lp_inr (⟨hs_42.1, hs_42.2⟩))
      · refine ok_b1r ?_
        unfold F_X7_readOpenings_71
        exact ok_some ⟨pb1, hs_13⟩
theorem T_X7_stepOfComparison {s : mG} (hI : IC s) : ok (F_X7_stepOfComparison s) PT := by
  have hR : RC true s s := RC_refl hI
  unfold F_X7_stepOfComparison
  refine ok_ite (fun h_1 => ?_) (fun h_2 => ?_)
  · exact ok_some trivial
  · refine ok_ite (fun h_3 => ?_) (fun h_4 => ?_)
    · exact ok_some trivial
    · refine ok_ite (fun h_5 => ?_) (fun h_6 => ?_)
      · exact ok_some trivial
      · exact ok_some trivial
theorem T_X7_lastWaiting {s : mG} (hI : IC s) : ok (F_X7_lastWaiting s) PT := by
  have hR : RC true s s := RC_refl hI
  unfold F_X7_lastWaiting
  refine ok_ite (fun h_1 => ?_) (fun h_2 => ?_)
  · exact ok_some trivial
  · refine ok_b1 (T_X11_cell sh67 hR.1) (fun v_3 _ => ?_)
    exact ok_some trivial
theorem T_X7_closeNots {s : mG} (hI : IC s) : ok (F_X7_closeNots s) (RC true s) := by
  have hR : RC true s s := RC_refl hI
  unfold F_X7_closeNots
  unfold F_X7_closeNots_L2
  refine ok_whl (fun v => RC true s v.2 ∧ ¬ v.1 < 0) (fun v => mUp v.1) ⟨hR, nn0⟩ (fun v hv => ?_)
  obtain ⟨x_5, s_6⟩ := v
  obtain ⟨rhs_7, rhn_8⟩ := hv
  have hs_7 : RC true s s_6 := rhs_7
  have hn_8 : ¬ x_5 < 0 := rhn_8
  show ok (F_X7_closeNots_B2 x_5 s_6) _
  unfold F_X7_closeNots_B2
  refine ok_ite (fun h_9 => ?_) (fun h_10 => ?_)
  · exact ok_some (lp_inr (hs_7))
  · refine ok_b1 (T_X7_lastWaiting hs_7.1) (fun v_11 _ => ?_)
    refine ok_ite (fun h_13 => ?_) (fun h_14 => ?_)
    · refine ok_b1 (ok_tr hs_7 (T_X10_push isT_58 hs_7.1)) (fun s_15 (hs_16 : RC true s s_15) => ?_)
      extract_lets +onlyGivenNames s_17
      have hs_18 : RC true s s_17 := (RC_mu hs_16 (by decide))
      clear_value s_17
      extract_lets +onlyGivenNames s_19
      have hs_20 : RC true s s_19 := (RC_mu hs_18 (by decide))
      clear_value s_19
      exact ok_some (lp_inl ⟨hs_20, (up_nn hn_8 (ge_t h_10))⟩ (up_t (ge_t h_10)))
    · exact ok_some (lp_inr (hs_7))
theorem T_X7_joinWhatWaits {a1 : Int32} {s : mG} (hI : IC s) : ok (F_X7_joinWhatWaits a1 s) (RC true s) := by
  have hR : RC true s s := RC_refl hI
  unfold F_X7_joinWhatWaits
  unfold F_X7_joinWhatWaits_L2
  refine ok_whl (fun v => a1 = v.1 ∧ RC true s v.2.2 ∧ ¬ v.2.1 < 0) (fun v => mUp v.2.1) ⟨rfl, hR, nn0⟩ (fun v hv => ?_)
  obtain ⟨x_10, x_11, s_12⟩ := v
  obtain ⟨rfl, rhs_13, rhn_14⟩ := hv
  have hs_13 : RC true s s_12 := rhs_13
  have hn_14 : ¬ x_11 < 0 := rhn_14
  show ok (F_X7_joinWhatWaits_B2 a1 x_11 s_12) _
  unfold F_X7_joinWhatWaits_B2
  refine ok_ite (fun h_15 => ?_) (fun h_16 => ?_)
  · exact ok_some (lp_inr (hs_13))
  · refine ok_b1 (T_X7_lastWaiting hs_13.1) (fun v_17 _ => ?_)
    refine ok_ite (fun h_19 => ?_) (fun h_20 => ?_)
    · unfold F_X7_joinWhatWaits_32
      refine ok_ite (fun h_21 => ?_) (fun h_22 => ?_)
      · unfold F_X7_joinWhatWaits_50
        refine ok_b1 (ok_tr hs_13 (T_X10_push isT_58 hs_13.1)) (fun s_23 (hs_24 : RC true s s_23) => ?_)
        extract_lets +onlyGivenNames s_25
        have hs_26 : RC true s s_25 := (RC_mu hs_24 (by decide))
        clear_value s_25
        exact ok_some (lp_inl ⟨rfl, hs_26, (up_nn hn_14 (ge_t h_16))⟩ (up_t (ge_t h_16)))
      · unfold F_X7_joinWhatWaits_50
        refine ok_b1 (ok_tr hs_13 (T_X10_push isT_58 hs_13.1)) (fun s_27 (hs_28 : RC true s s_27) => ?_)
        extract_lets +onlyGivenNames s_29
        have hs_30 : RC true s s_29 := (RC_mu hs_28 (by decide))
        clear_value s_29
        exact ok_some (lp_inl ⟨rfl, hs_30, (up_nn hn_14 (ge_t h_16))⟩ (up_t (ge_t h_16)))
    · refine ok_ite (fun h_31 => ?_) (fun h_32 => ?_)
      · refine ok_ite (fun h_33 => ?_) (fun h_34 => ?_)
        · unfold F_X7_joinWhatWaits_32
          refine ok_ite (fun h_35 => ?_) (fun h_36 => ?_)
          · unfold F_X7_joinWhatWaits_50
            refine ok_b1 (ok_tr hs_13 (T_X10_push isT_58 hs_13.1)) (fun s_37 (hs_38 : RC true s s_37) => ?_)
            extract_lets +onlyGivenNames s_39
            have hs_40 : RC true s s_39 := (RC_mu hs_38 (by decide))
            clear_value s_39
            exact ok_some (lp_inl ⟨rfl, hs_40, (up_nn hn_14 (ge_t h_16))⟩ (up_t (ge_t h_16)))
          · unfold F_X7_joinWhatWaits_50
            refine ok_b1 (ok_tr hs_13 (T_X10_push isT_58 hs_13.1)) (fun s_41 (hs_42 : RC true s s_41) => ?_)
            extract_lets +onlyGivenNames s_43
            have hs_44 : RC true s s_43 := (RC_mu hs_42 (by decide))
            clear_value s_43
            exact ok_some (lp_inl ⟨rfl, hs_44, (up_nn hn_14 (ge_t h_16))⟩ (up_t (ge_t h_16)))
        · exact ok_some (lp_inr (hs_13))
      · exact ok_some (lp_inr (hs_13))
theorem T_X7_readClosings {s : mG} (hI : IC s) : ok (F_X7_readClosings s) (RC true s) := by
  have hR : RC true s s := RC_refl hI
  unfold F_X7_readClosings
  refine ok_b1 (ok_tr hR (T_X7_closeNots hR.1)) (fun s_1 (hs_2 : RC true s s_1) => ?_)
  unfold F_X7_readClosings_L6
  refine ok_whl (fun v => RC true s v.2 ∧ ¬ v.1 < 0) (fun v => mUp v.1) ⟨hs_2, nn0⟩ (fun v hv => ?_)
  obtain ⟨x_8, s_9⟩ := v
  obtain ⟨rhs_10, rhn_11⟩ := hv
  have hs_10 : RC true s s_9 := rhs_10
  have hn_11 : ¬ x_8 < 0 := rhn_11
  show ok (F_X7_readClosings_B6 x_8 s_9) _
  unfold F_X7_readClosings_B6
  refine ok_ite (fun h_12 => ?_) (fun h_13 => ?_)
  · exact ok_some (lp_inr (hs_10))
  · refine ok_ite (fun h_14 => ?_) (fun h_15 => ?_)
    · refine ok_ite (fun h_16 => ?_) (fun h_17 => ?_)
      · exact ok_some (lp_inr (hs_10))
      · refine ok_b1 (ok_tr hs_10 (T_X7_joinWhatWaits hs_10.1)) (fun s_18 (hs_19 : RC true s s_18) => ?_)
        extract_lets +onlyGivenNames s_20
        have hs_21 : RC true s s_20 := (RC_mu hs_19 (by decide))
        clear_value s_20
        extract_lets +onlyGivenNames s_22
        have hs_23 : RC true s s_22 := (RC_mu hs_21 (by decide))
        clear_value s_22
        refine ok_b1 (ok_tr hs_23 (T_X7_stepOn hs_23.1)) (fun s_24 (hs_25 : RC true s s_24) => ?_)
        refine ok_b1 (ok_tr hs_25 (T_X7_closeNots hs_25.1)) (fun s_26 (hs_27 : RC true s s_26) => ?_)
        exact ok_some (lp_inl ⟨hs_27, (up_nn hn_11 (ge_t h_13))⟩ (up_t (ge_t h_13)))
    · exact ok_some (lp_inr (hs_10))
theorem T_X7_readCondition {s : mG} (hI : IC s) : ok (F_X7_readCondition s) (fun τ => PB τ.1 ∧ RC true s τ.2) := by
  have hR : RC true s s := RC_refl hI
  unfold F_X7_readCondition
  extract_lets +onlyGivenNames s_1
  have hs_2 : RC true s s_1 := (RC_mu hR (by decide))
  clear_value s_1
  extract_lets +onlyGivenNames s_3
  have hs_4 : RC true s s_3 := (RC_mu hs_2 (by decide))
  clear_value s_3
  unfold F_X7_readCondition_L12
  refine ok_whl (fun v => RC true s v.2 ∧ ¬ v.1 < 0) (fun v => mUp v.1) ⟨hs_4, nn0⟩ (fun v hv => ?_)
  obtain ⟨x_31, s_32⟩ := v
  obtain ⟨rhs_33, rhn_34⟩ := hv
  have hs_33 : RC true s s_32 := rhs_33
  have hn_34 : ¬ x_31 < 0 := rhn_34
  show ok (F_X7_readCondition_B12 x_31 s_32) _
  unfold F_X7_readCondition_B12
  refine ok_ite (fun h_35 => ?_) (fun h_36 => ?_)
  · exact ok_some (lp_inr (⟨pb0, hs_33⟩))
  · refine ok_b2 (ok_tr3 hs_33 (T_X7_readOpenings hs_33.1)) (fun v_37 s_38 (hs_39 : PB v_37 ∧ RC true s s_38) => ?_)
    refine ok_ite (fun h_40 => ?_) (fun h_41 => ?_)
    · refine ok_b1r ?_
      unfold F_X7_readCondition_33
      exact ok_some ⟨pb0, hs_39.2⟩
    · refine ok_b2 (ok_tr3 hs_39.2 (T_X7_readSum hs_39.2.1)) (fun v_42 s_43 (hs_44 : PB v_42 ∧ RC true s s_43) => ?_)
      refine ok_ite (fun h_45 => ?_) (fun h_46 => ?_)
      · refine ok_b1r ?_
        unfold F_X7_readCondition_33
        exact ok_some ⟨pb0, hs_44.2⟩
      · refine ok_b1 (T_X7_stepOfComparison hs_44.2.1) (fun v_47 _ => ?_)
        refine ok_ite (fun h_49 => ?_) (fun h_50 => ?_)
        · refine ok_b2 (ok_tr3 hs_44.2 (T_X7_refuse hs_44.2.1)) (fun v_51 s_52 (hs_53 : PB v_51 ∧ RC true s s_52) => ?_)
          refine ok_pp hs_53.1 ?_
          exact ok_some (lp_inr (⟨hs_53.1, hs_53.2⟩))
        · refine ok_b1 (ok_tr hs_44.2 (T_X7_stepOn hs_44.2.1)) (fun s_54 (hs_55 : RC true s s_54) => ?_)
          refine ok_b2 (ok_tr3 hs_55 (T_X7_readSum hs_55.1)) (fun v_56 s_57 (hs_58 : PB v_56 ∧ RC true s s_57) => ?_)
          refine ok_ite (fun h_59 => ?_) (fun h_60 => ?_)
          · exact ok_some (lp_inr (⟨pb0, hs_58.2⟩))
          · refine ok_b1 (ok_tr hs_58.2 (T_X10_push isT_58 hs_58.2.1)) (fun s_61 (hs_62 : RC true s s_61) => ?_)
            refine ok_b1 (ok_tr hs_62 (T_X7_readClosings hs_62.1)) (fun s_63 (hs_64 : RC true s s_63) => ?_)
            refine ok_ite (fun h_65 => ?_) (fun h_66 => ?_)
            · unfold F_X7_readCondition_96
              refine ok_b1 (ok_tr hs_64 (T_X7_joinWhatWaits hs_64.1)) (fun s_67 (hs_68 : RC true s s_67) => ?_)
              refine ok_ite (fun h_69 => ?_) (fun h_70 => ?_)
              · unfold F_X7_readCondition_140
                refine ok_b1 (ok_tr hs_68 (T_X7_hold hs_68.1)) (fun s_71 (hs_72 : RC true s s_71) => ?_)
                refine ok_b1 (ok_tr hs_72 (T_X7_stepOn hs_72.1)) (fun s_73 (hs_74 : RC true s s_73) => ?_)
                exact ok_some (lp_inl ⟨hs_74, (up_nn hn_34 (ge_t h_36))⟩ (up_t (ge_t h_36)))
              · refine ok_ite (fun h_75 => ?_) (fun h_76 => ?_)
                · unfold F_X7_readCondition_140
                  refine ok_b1 (ok_tr hs_68 (T_X7_hold hs_68.1)) (fun s_77 (hs_78 : RC true s s_77) => ?_)
                  refine ok_b1 (ok_tr hs_78 (T_X7_stepOn hs_78.1)) (fun s_79 (hs_80 : RC true s s_79) => ?_)
                  exact ok_some (lp_inl ⟨hs_80, (up_nn hn_34 (ge_t h_36))⟩ (up_t (ge_t h_36)))
                · refine ok_ite (fun h_81 => ?_) (fun h_82 => ?_)
                  · refine ok_b1r ?_
                    unfold F_X7_readCondition_134
                    exact ok_some ⟨pb1, hs_68⟩
                  · refine ok_b2 (ok_tr3 hs_68 (T_X7_refuse hs_68.1)) (fun v_83 s_84 (hs_85 : PB v_83 ∧ RC true s s_84) => ?_)
                    refine ok_ite (fun h_86 => ?_) (fun h_87 => ?_)
                    · exact ok_some (lp_inr (⟨pb0, hs_85.2⟩))
                    · refine ok_b1r ?_
                      unfold F_X7_readCondition_134
                      exact ok_some ⟨pb1, hs_85.2⟩
            · unfold F_X7_readCondition_96
              refine ok_b1 (ok_tr hs_64 (T_X7_joinWhatWaits hs_64.1)) (fun s_88 (hs_89 : RC true s s_88) => ?_)
              refine ok_ite (fun h_90 => ?_) (fun h_91 => ?_)
              · unfold F_X7_readCondition_140
                refine ok_b1 (ok_tr hs_89 (T_X7_hold hs_89.1)) (fun s_92 (hs_93 : RC true s s_92) => ?_)
                refine ok_b1 (ok_tr hs_93 (T_X7_stepOn hs_93.1)) (fun s_94 (hs_95 : RC true s s_94) => ?_)
                exact ok_some (lp_inl ⟨hs_95, (up_nn hn_34 (ge_t h_36))⟩ (up_t (ge_t h_36)))
              · refine ok_ite (fun h_96 => ?_) (fun h_97 => ?_)
                · unfold F_X7_readCondition_140
                  refine ok_b1 (ok_tr hs_89 (T_X7_hold hs_89.1)) (fun s_98 (hs_99 : RC true s s_98) => ?_)
                  refine ok_b1 (ok_tr hs_99 (T_X7_stepOn hs_99.1)) (fun s_100 (hs_101 : RC true s s_100) => ?_)
                  exact ok_some (lp_inl ⟨hs_101, (up_nn hn_34 (ge_t h_36))⟩ (up_t (ge_t h_36)))
                · refine ok_ite (fun h_102 => ?_) (fun h_103 => ?_)
                  · refine ok_b1r ?_
                    unfold F_X7_readCondition_134
                    exact ok_some ⟨pb1, hs_89⟩
                  · refine ok_b2 (ok_tr3 hs_89 (T_X7_refuse hs_89.1)) (fun v_104 s_105 (hs_106 : PB v_104 ∧ RC true s s_105) => ?_)
                    refine ok_ite (fun h_107 => ?_) (fun h_108 => ?_)
                    · exact ok_some (lp_inr (⟨pb0, hs_106.2⟩))
                    · refine ok_b1r ?_
                      unfold F_X7_readCondition_134
                      exact ok_some ⟨pb1, hs_106.2⟩
end
end
/-! 54.d -/
section
noncomputable section
theorem T_X7_readLaw {s : mG} (hI : IC s) : ok (F_X7_readLaw s) (fun τ => PB τ.1 ∧ RC true s τ.2) := by
  have hR : RC true s s := RC_refl hI
  unfold F_X7_readLaw
  refine ok_b1 (T_X11_isWithin hR.1) (fun v_1 (hv_2 : PB v_1) => ?_)
  refine ok_ite (fun h_3 => ?_) (fun h_4 => ?_)
  · refine ok_b2 (ok_tr3 hR (T_X7_refuse hR.1)) (fun v_5 s_6 (hs_7 : PB v_5 ∧ RC true s s_6) => ?_)
    refine ok_pp hs_7.1 ?_
    exact ok_some ⟨hs_7.1, hs_7.2⟩
  · refine ok_b2 (ok_tr2 hR (T_X10_add isT_56 hR.1)) (fun v_8 s_9 (hs_10 : RC true s s_9) => ?_)
    refine ok_ite (fun h_11 => ?_) (fun h_12 => ?_)
    · refine ok_b2 (ok_tr3 hs_10 (T_X7_refuse hs_10.1)) (fun v_13 s_14 (hs_15 : PB v_13 ∧ RC true s s_14) => ?_)
      refine ok_pp hs_15.1 ?_
      exact ok_some ⟨hs_15.1, hs_15.2⟩
    · refine ok_b1 (ok_tr hs_10 (T_X10_put isT_56 hs_10.1)) (fun s_16 (hs_17 : RC true s s_16) => ?_)
      refine ok_b1 (ok_tr hs_17 (T_X10_put isT_56 hs_17.1)) (fun s_18 (hs_19 : RC true s s_18) => ?_)
      refine ok_b1 (ok_tr hs_19 (T_X7_stepOn hs_19.1)) (fun s_20 (hs_21 : RC true s s_20) => ?_)
      refine ok_b2 (ok_tr3 hs_21 (T_X7_readSum hs_21.1)) (fun v_22 s_23 (hs_24 : PB v_22 ∧ RC true s s_23) => ?_)
      refine ok_ite (fun h_25 => ?_) (fun h_26 => ?_)
      · exact ok_some ⟨pb0, hs_24.2⟩
      · refine ok_b1 (ok_tr hs_24.2 (T_X10_put isT_56 hs_24.2.1)) (fun s_27 (hs_28 : RC true s s_27) => ?_)
        refine ok_ite (fun h_29 => ?_) (fun h_30 => ?_)
        · refine ok_b1 (ok_tr hs_28 (T_X7_stepOn hs_28.1)) (fun s_31 (hs_32 : RC true s s_31) => ?_)
          refine ok_b2 (ok_tr3 hs_32 (T_X7_readCondition hs_32.1)) (fun v_33 s_34 (hs_35 : PB v_33 ∧ RC true s s_34) => ?_)
          refine ok_ite (fun h_36 => ?_) (fun h_37 => ?_)
          · exact ok_some ⟨pb0, hs_35.2⟩
          · unfold F_X7_readLaw_126
            refine ok_b1 (ok_tr hs_35.2 (T_X10_put isT_56 hs_35.2.1)) (fun s_38 (hs_39 : RC true s s_38) => ?_)
            refine ok_b2 (ok_tr3 hs_39 (T_X7_pass hs_39.1)) (fun v_40 s_41 (hs_42 : PB v_40 ∧ RC true s s_41) => ?_)
            refine ok_pp hs_42.1 ?_
            exact ok_some ⟨hs_42.1, hs_42.2⟩
        · unfold F_X7_readLaw_126
          refine ok_b1 (ok_tr hs_28 (T_X10_put isT_56 hs_28.1)) (fun s_43 (hs_44 : RC true s s_43) => ?_)
          refine ok_b2 (ok_tr3 hs_44 (T_X7_pass hs_44.1)) (fun v_45 s_46 (hs_47 : PB v_45 ∧ RC true s s_46) => ?_)
          refine ok_pp hs_47.1 ?_
          exact ok_some ⟨hs_47.1, hs_47.2⟩
theorem T_X7_readText {a1 : Int32} {s : mG} (hI : IC s) : ok (F_X7_readText a1 s) (fun τ => PB τ.1 ∧ RC true s τ.2) := by
  have hR : RC true s s := RC_refl hI
  unfold F_X7_readText
  extract_lets +onlyGivenNames s_1
  have hs_2 : RC true s s_1 := (RC_mu hR (by decide))
  clear_value s_1
  extract_lets +onlyGivenNames s_3
  have hs_4 : RC true s s_3 := (RC_mu hs_2 (by decide))
  clear_value s_3
  refine ok_ite (fun h_5 => ?_) (fun h_6 => ?_)
  · unfold F_X7_readText_19
    exact ok_some ⟨pb0, hs_4⟩
  · refine ok_ite (fun h_7 => ?_) (fun h_8 => ?_)
    · refine ok_b1 (ok_tr hs_4 (T_X7_splitTape hs_4.1)) (fun s_9 (hs_10 : RC true s s_9) => ?_)
      refine ok_b1 (ok_tr hs_10 (T_X10_clear isT_56 hs_10.1)) (fun s_11 (hs_12 : RC true s s_11) => ?_)
      refine ok_b1 (ok_tr hs_12 (T_X10_clear isT_58 hs_12.1)) (fun s_13 (hs_14 : RC true s s_13) => ?_)
      refine ok_b1 (ok_tr hs_14 (T_X10_clear isT_60 hs_14.1)) (fun s_15 (hs_16 : RC true s s_15) => ?_)
      refine ok_b1 (ok_tr hs_16 (T_X10_clear isT_62 hs_16.1)) (fun s_17 (hs_18 : RC true s s_17) => ?_)
      extract_lets +onlyGivenNames s_19
      have hs_20 : RC true s s_19 := (RC_mu hs_18 (by decide))
      clear_value s_19
      refine ok_b1 (ok_tr hs_20 (T_X7_stepOn hs_20.1)) (fun s_21 (hs_22 : RC true s s_21) => ?_)
      unfold F_X7_readText_L64
      refine ok_whl (fun v => a1 = v.1 ∧ RC true s v.2.2 ∧ ¬ v.2.1 < 0) (fun v => mUp v.2.1) ⟨rfl, hs_22, nn0⟩ (fun v hv => ?_)
      obtain ⟨x_29, x_30, s_31⟩ := v
      obtain ⟨rfl, rhs_32, rhn_33⟩ := hv
      have hs_32 : RC true s s_31 := rhs_32
      have hn_33 : ¬ x_30 < 0 := rhn_33
      show ok (F_X7_readText_B64 a1 x_30 s_31) _
      unfold F_X7_readText_B64
      refine ok_ite (fun h_34 => ?_) (fun h_35 => ?_)
      · refine ok_b1r ?_
        unfold F_X7_readText_119
        exact ok_some ⟨pb1, hs_32⟩
      · refine ok_ite (fun h_36 => ?_) (fun h_37 => ?_)
        · refine ok_b1r ?_
          unfold F_X7_readText_119
          exact ok_some ⟨pb1, hs_32⟩
        · refine ok_ite (fun h_38 => ?_) (fun h_39 => ?_)
          · refine ok_b2 (ok_tr3 hs_32 (T_X7_readLaw hs_32.1)) (fun v_40 s_41 (hs_42 : PB v_40 ∧ RC true s s_41) => ?_)
            unfold F_X7_readText_106
            refine ok_ite (fun h_43 => ?_) (fun h_44 => ?_)
            · exact ok_some (lp_inr (⟨pb0, hs_42.2⟩))
            · exact ok_some (lp_inl ⟨rfl, hs_42.2, (up_nn hn_33 (ge_t h_35))⟩ (up_t (ge_t h_35)))
          · refine ok_ite (fun h_45 => ?_) (fun h_46 => ?_)
            · refine ok_b2 (ok_tr3 hs_32 (T_X7_readSign hs_32.1)) (fun v_47 s_48 (hs_49 : PB v_47 ∧ RC true s s_48) => ?_)
              unfold F_X7_readText_106
              refine ok_ite (fun h_50 => ?_) (fun h_51 => ?_)
              · exact ok_some (lp_inr (⟨pb0, hs_49.2⟩))
              · exact ok_some (lp_inl ⟨rfl, hs_49.2, (up_nn hn_33 (ge_t h_35))⟩ (up_t (ge_t h_35)))
            · refine ok_b2 (ok_tr3 hs_32 (T_X7_readShift hs_32.1)) (fun v_52 s_53 (hs_54 : PB v_52 ∧ RC true s s_53) => ?_)
              unfold F_X7_readText_106
              refine ok_ite (fun h_55 => ?_) (fun h_56 => ?_)
              · exact ok_some (lp_inr (⟨pb0, hs_54.2⟩))
              · exact ok_some (lp_inl ⟨rfl, hs_54.2, (up_nn hn_33 (ge_t h_35))⟩ (up_t (ge_t h_35)))
    · unfold F_X7_readText_19
      exact ok_some ⟨pb0, hs_4⟩
theorem T_X8_hangsWrong {s : mG} {a1 : Int32} (hI : IC s) : ok (F_X8_hangsWrong s a1) PB := by
  have hR : RC true s s := RC_refl hI
  unfold F_X8_hangsWrong
  refine ok_b1 (T_X10_at isT_2 hR.1) (fun v_1 _ => ?_)
  refine ok_ite (fun h_3 => ?_) (fun h_4 => ?_)
  · unfold F_X8_hangsWrong_27
    exact ok_some pb0
  · refine ok_ite (fun h_5 => ?_) (fun h_6 => ?_)
    · unfold F_X8_hangsWrong_27
      exact ok_some pb0
    · exact ok_some pb1
theorem T_X8_wrongHooks {s : mG} (hI : IC s) : ok (F_X8_wrongHooks s) PT := by
  have hR : RC true s s := RC_refl hI
  unfold F_X8_wrongHooks
  unfold F_X8_wrongHooks_L4
  refine ok_whl (fun v => ¬ v.2 < 0) (fun v => mUp v.2) nn0 (fun v hv => ?_)
  obtain ⟨x_3, x_4⟩ := v
  have hn_5 : ¬ x_4 < 0 := hv
  show ok (F_X8_wrongHooks_B4 s x_3 x_4) _
  unfold F_X8_wrongHooks_B4
  refine ok_ite (fun h_6 => ?_) (fun h_7 => ?_)
  · exact ok_some (lp_inr (trivial))
  · refine ok_b1 (T_X8_hangsWrong hR.1) (fun v_8 (hv_9 : PB v_8) => ?_)
    refine ok_ite (fun h_10 => ?_) (fun h_11 => ?_)
    · unfold F_X8_wrongHooks_45
      exact ok_some (lp_inl (up_nn hn_5 (ge_t h_7)) (up_t (ge_t h_7)))
    · refine ok_b1 (T_X10_at isT_2 hR.1) (fun v_12 _ => ?_)
      unfold F_X8_wrongHooks_45
      exact ok_some (lp_inl (up_nn hn_5 (ge_t h_7)) (up_t (ge_t h_7)))
theorem T_X8_ringOf {s : mG} {a1 : Int32} (hI : IC s) : ok (F_X8_ringOf s a1) PT := by
  have hR : RC true s s := RC_refl hI
  unfold F_X8_ringOf
  unfold F_X8_ringOf_L7
  refine ok_whl (fun v => a1 = v.1 ∧ ¬ v.2.2.2 < 0) (fun v => mUp v.2.2.2) ⟨rfl, nn0⟩ (fun v hv => ?_)
  obtain ⟨x_4, x_5, x_6, x_7⟩ := v
  obtain ⟨rfl, rhn_8⟩ := hv
  have hn_8 : ¬ x_7 < 0 := rhn_8
  show ok (F_X8_ringOf_B7 s a1 x_5 x_6 x_7) _
  unfold F_X8_ringOf_B7
  refine ok_ite (fun h_9 => ?_) (fun h_10 => ?_)
  · exact ok_some (lp_inr (trivial))
  · refine ok_b1 (T_X8_hangsWrong hR.1) (fun v_11 (hv_12 : PB v_11) => ?_)
    refine ok_ite (fun h_13 => ?_) (fun h_14 => ?_)
    · exact ok_some (lp_inr (trivial))
    · extract_lets +onlyGivenNames v_15
      clear_value v_15
      refine ok_b1 (T_X10_at isT_2 hR.1) (fun v_16 _ => ?_)
      refine ok_ite (fun h_18 => ?_) (fun h_19 => ?_)
      · exact ok_some (lp_inr (trivial))
      · exact ok_some (lp_inl ⟨rfl, (up_nn hn_8 (ge_t h_10))⟩ (up_t (ge_t h_10)))
theorem T_X8_ringCount {s : mG} (hI : IC s) : ok (F_X8_ringCount s) PT := by
  have hR : RC true s s := RC_refl hI
  unfold F_X8_ringCount
  unfold F_X8_ringCount_L4
  refine ok_whl (fun v => ¬ v.2 < 0) (fun v => mUp v.2) nn0 (fun v hv => ?_)
  obtain ⟨x_2, x_3⟩ := v
  have hn_4 : ¬ x_3 < 0 := hv
  show ok (F_X8_ringCount_B4 s x_2 x_3) _
  unfold F_X8_ringCount_B4
  refine ok_ite (fun h_5 => ?_) (fun h_6 => ?_)
  · exact ok_some (lp_inr (trivial))
  · refine ok_b1 (T_X8_ringOf hR.1) (fun v_7 _ => ?_)
    refine ok_ite (fun h_9 => ?_) (fun h_10 => ?_)
    · unfold F_X8_ringCount_39
      refine ok_ite (fun h_11 => ?_) (fun h_12 => ?_)
      · unfold F_X8_ringCount_55
        unfold F_X8_ringCount_56
        exact ok_some (lp_inl (up_nn hn_4 (ge_t h_6)) (up_t (ge_t h_6)))
      · refine ok_ite (fun h_13 => ?_) (fun h_14 => ?_)
        · unfold F_X8_ringCount_55
          unfold F_X8_ringCount_56
          exact ok_some (lp_inl (up_nn hn_4 (ge_t h_6)) (up_t (ge_t h_6)))
        · unfold F_X8_ringCount_56
          exact ok_some (lp_inl (up_nn hn_4 (ge_t h_6)) (up_t (ge_t h_6)))
    · unfold F_X8_ringCount_39
      refine ok_ite (fun h_15 => ?_) (fun h_16 => ?_)
      · unfold F_X8_ringCount_55
        unfold F_X8_ringCount_56
        exact ok_some (lp_inl (up_nn hn_4 (ge_t h_6)) (up_t (ge_t h_6)))
      · refine ok_ite (fun h_17 => ?_) (fun h_18 => ?_)
        · unfold F_X8_ringCount_55
          unfold F_X8_ringCount_56
          exact ok_some (lp_inl (up_nn hn_4 (ge_t h_6)) (up_t (ge_t h_6)))
        · unfold F_X8_ringCount_56
          exact ok_some (lp_inl (up_nn hn_4 (ge_t h_6)) (up_t (ge_t h_6)))
theorem T_X8_longestOutWithKey {s : mG} (hI : IC s) : ok (F_X8_longestOutWithKey s) PT := by
  have hR : RC true s s := RC_refl hI
  unfold F_X8_longestOutWithKey
  unfold F_X8_longestOutWithKey_L6
  refine ok_whl (fun v => ¬ v.2.2 < 0) (fun v => mUp v.2.2) nn0 (fun v hv => ?_)
  obtain ⟨x_9, x_10, x_11⟩ := v
  have hn_12 : ¬ x_11 < 0 := hv
  show ok (F_X8_longestOutWithKey_B6 s x_9 x_10 x_11) _
  unfold F_X8_longestOutWithKey_B6
  refine ok_ite (fun h_13 => ?_) (fun h_14 => ?_)
  · exact ok_some (lp_inr (trivial))
  · refine ok_b1 (T_X2_isOut isH_1 hR.1) (fun v_15 (hv_16 : PB v_15) => ?_)
    refine ok_ite (fun h_17 => ?_) (fun h_18 => ?_)
    · unfold F_X8_longestOutWithKey_51
      unfold F_X8_longestOutWithKey_52
      refine ok_ite (fun h_19 => ?_) (fun h_20 => ?_)
      · unfold F_X8_longestOutWithKey_90
        exact ok_some (lp_inl (up_nn hn_12 (ge_t h_14)) (up_t (ge_t h_14)))
      · refine ok_b1 (T_X10_at isT_2 hR.1) (fun v_21 _ => ?_)
        refine ok_ite (fun h_23 => ?_) (fun h_24 => ?_)
        · unfold F_X8_longestOutWithKey_90
          exact ok_some (lp_inl (up_nn hn_12 (ge_t h_14)) (up_t (ge_t h_14)))
        · refine ok_b1 (T_X10_at isT_2 hR.1) (fun v_25 _ => ?_)
          unfold F_X8_longestOutWithKey_90
          exact ok_some (lp_inl (up_nn hn_12 (ge_t h_14)) (up_t (ge_t h_14)))
    · refine ok_b1 (T_X10_at isT_2 hR.1) (fun v_27 _ => ?_)
      refine ok_ite (fun h_29 => ?_) (fun h_30 => ?_)
      · unfold F_X8_longestOutWithKey_52
        refine ok_ite (fun h_31 => ?_) (fun h_32 => ?_)
        · unfold F_X8_longestOutWithKey_90
          exact ok_some (lp_inl (up_nn hn_12 (ge_t h_14)) (up_t (ge_t h_14)))
        · refine ok_b1 (T_X10_at isT_2 hR.1) (fun v_33 _ => ?_)
          refine ok_ite (fun h_35 => ?_) (fun h_36 => ?_)
          · unfold F_X8_longestOutWithKey_90
            exact ok_some (lp_inl (up_nn hn_12 (ge_t h_14)) (up_t (ge_t h_14)))
          · refine ok_b1 (T_X10_at isT_2 hR.1) (fun v_37 _ => ?_)
            unfold F_X8_longestOutWithKey_90
            exact ok_some (lp_inl (up_nn hn_12 (ge_t h_14)) (up_t (ge_t h_14)))
      · unfold F_X8_longestOutWithKey_51
        unfold F_X8_longestOutWithKey_52
        refine ok_ite (fun h_39 => ?_) (fun h_40 => ?_)
        · unfold F_X8_longestOutWithKey_90
          exact ok_some (lp_inl (up_nn hn_12 (ge_t h_14)) (up_t (ge_t h_14)))
        · refine ok_b1 (T_X10_at isT_2 hR.1) (fun v_41 _ => ?_)
          refine ok_ite (fun h_43 => ?_) (fun h_44 => ?_)
          · unfold F_X8_longestOutWithKey_90
            exact ok_some (lp_inl (up_nn hn_12 (ge_t h_14)) (up_t (ge_t h_14)))
          · refine ok_b1 (T_X10_at isT_2 hR.1) (fun v_45 _ => ?_)
            unfold F_X8_longestOutWithKey_90
            exact ok_some (lp_inl (up_nn hn_12 (ge_t h_14)) (up_t (ge_t h_14)))
theorem T_X8_linesOf {s : mG} {a1 : Int32} {a2 : Int32} (hI : IC s) : ok (F_X8_linesOf s a1 a2) PT := by
  have hR : RC true s s := RC_refl hI
  unfold F_X8_linesOf
  unfold F_X8_linesOf_L5
  refine ok_whl (fun v => a1 = v.1 ∧ a2 = v.2.1 ∧ ¬ v.2.2.2 < 0) (fun v => mUp v.2.2.2) ⟨rfl, rfl, nn0⟩ (fun v hv => ?_)
  obtain ⟨x_6, x_7, x_8, x_9⟩ := v
  obtain ⟨rfl, rfl, rhn_10⟩ := hv
  have hn_10 : ¬ x_9 < 0 := rhn_10
  show ok (F_X8_linesOf_B5 s a1 a2 x_8 x_9) _
  unfold F_X8_linesOf_B5
  refine ok_ite (fun h_11 => ?_) (fun h_12 => ?_)
  · exact ok_some (lp_inr (trivial))
  · refine ok_b1 (T_X10_at isT_4 hR.1) (fun v_13 _ => ?_)
    refine ok_ite (fun h_15 => ?_) (fun h_16 => ?_)
    · refine ok_b1 (T_X10_at isT_4 hR.1) (fun v_17 _ => ?_)
      refine ok_ite (fun h_19 => ?_) (fun h_20 => ?_)
      · unfold F_X8_linesOf_58
        unfold F_X8_linesOf_59
        refine ok_b1 (T_X10_at isT_4 hR.1) (fun v_21 _ => ?_)
        refine ok_ite (fun h_23 => ?_) (fun h_24 => ?_)
        · unfold F_X8_linesOf_83
          refine ok_ite (fun h_25 => ?_) (fun h_26 => ?_)
          · unfold F_X8_linesOf_101
            unfold F_X8_linesOf_102
            exact ok_some (lp_inl ⟨rfl, rfl, (up_nn hn_10 (ge_t h_12))⟩ (up_t (ge_t h_12)))
          · refine ok_ite (fun h_27 => ?_) (fun h_28 => ?_)
            · unfold F_X8_linesOf_102
              exact ok_some (lp_inl ⟨rfl, rfl, (up_nn hn_10 (ge_t h_12))⟩ (up_t (ge_t h_12)))
            · unfold F_X8_linesOf_101
              unfold F_X8_linesOf_102
              exact ok_some (lp_inl ⟨rfl, rfl, (up_nn hn_10 (ge_t h_12))⟩ (up_t (ge_t h_12)))
        · unfold F_X8_linesOf_83
          refine ok_ite (fun h_29 => ?_) (fun h_30 => ?_)
          · unfold F_X8_linesOf_101
            unfold F_X8_linesOf_102
            exact ok_some (lp_inl ⟨rfl, rfl, (up_nn hn_10 (ge_t h_12))⟩ (up_t (ge_t h_12)))
          · refine ok_ite (fun h_31 => ?_) (fun h_32 => ?_)
            · unfold F_X8_linesOf_102
              exact ok_some (lp_inl ⟨rfl, rfl, (up_nn hn_10 (ge_t h_12))⟩ (up_t (ge_t h_12)))
            · unfold F_X8_linesOf_101
              unfold F_X8_linesOf_102
              exact ok_some (lp_inl ⟨rfl, rfl, (up_nn hn_10 (ge_t h_12))⟩ (up_t (ge_t h_12)))
      · unfold F_X8_linesOf_59
        refine ok_b1 (T_X10_at isT_4 hR.1) (fun v_33 _ => ?_)
        refine ok_ite (fun h_35 => ?_) (fun h_36 => ?_)
        · unfold F_X8_linesOf_83
          refine ok_ite (fun h_37 => ?_) (fun h_38 => ?_)
          · unfold F_X8_linesOf_101
            unfold F_X8_linesOf_102
            exact ok_some (lp_inl ⟨rfl, rfl, (up_nn hn_10 (ge_t h_12))⟩ (up_t (ge_t h_12)))
          · refine ok_ite (fun h_39 => ?_) (fun h_40 => ?_)
            · unfold F_X8_linesOf_102
              exact ok_some (lp_inl ⟨rfl, rfl, (up_nn hn_10 (ge_t h_12))⟩ (up_t (ge_t h_12)))
            · unfold F_X8_linesOf_101
              unfold F_X8_linesOf_102
              exact ok_some (lp_inl ⟨rfl, rfl, (up_nn hn_10 (ge_t h_12))⟩ (up_t (ge_t h_12)))
        · unfold F_X8_linesOf_83
          refine ok_ite (fun h_41 => ?_) (fun h_42 => ?_)
          · unfold F_X8_linesOf_101
            unfold F_X8_linesOf_102
            exact ok_some (lp_inl ⟨rfl, rfl, (up_nn hn_10 (ge_t h_12))⟩ (up_t (ge_t h_12)))
          · refine ok_ite (fun h_43 => ?_) (fun h_44 => ?_)
            · unfold F_X8_linesOf_102
              exact ok_some (lp_inl ⟨rfl, rfl, (up_nn hn_10 (ge_t h_12))⟩ (up_t (ge_t h_12)))
            · unfold F_X8_linesOf_101
              unfold F_X8_linesOf_102
              exact ok_some (lp_inl ⟨rfl, rfl, (up_nn hn_10 (ge_t h_12))⟩ (up_t (ge_t h_12)))
    · unfold F_X8_linesOf_58
      unfold F_X8_linesOf_59
      refine ok_b1 (T_X10_at isT_4 hR.1) (fun v_45 _ => ?_)
      refine ok_ite (fun h_47 => ?_) (fun h_48 => ?_)
      · unfold F_X8_linesOf_83
        refine ok_ite (fun h_49 => ?_) (fun h_50 => ?_)
        · unfold F_X8_linesOf_101
          unfold F_X8_linesOf_102
          exact ok_some (lp_inl ⟨rfl, rfl, (up_nn hn_10 (ge_t h_12))⟩ (up_t (ge_t h_12)))
        · refine ok_ite (fun h_51 => ?_) (fun h_52 => ?_)
          · unfold F_X8_linesOf_102
            exact ok_some (lp_inl ⟨rfl, rfl, (up_nn hn_10 (ge_t h_12))⟩ (up_t (ge_t h_12)))
          · unfold F_X8_linesOf_101
            unfold F_X8_linesOf_102
            exact ok_some (lp_inl ⟨rfl, rfl, (up_nn hn_10 (ge_t h_12))⟩ (up_t (ge_t h_12)))
      · unfold F_X8_linesOf_83
        refine ok_ite (fun h_53 => ?_) (fun h_54 => ?_)
        · unfold F_X8_linesOf_101
          unfold F_X8_linesOf_102
          exact ok_some (lp_inl ⟨rfl, rfl, (up_nn hn_10 (ge_t h_12))⟩ (up_t (ge_t h_12)))
        · refine ok_ite (fun h_55 => ?_) (fun h_56 => ?_)
          · unfold F_X8_linesOf_102
            exact ok_some (lp_inl ⟨rfl, rfl, (up_nn hn_10 (ge_t h_12))⟩ (up_t (ge_t h_12)))
          · unfold F_X8_linesOf_101
            unfold F_X8_linesOf_102
            exact ok_some (lp_inl ⟨rfl, rfl, (up_nn hn_10 (ge_t h_12))⟩ (up_t (ge_t h_12)))
theorem T_X8_linesAt {s : mG} {a1 : Int32} {a2 : Int32} (hI : IC s) : ok (F_X8_linesAt s a1 a2) PT := by
  have hR : RC true s s := RC_refl hI
  unfold F_X8_linesAt
  unfold F_X8_linesAt_L5
  refine ok_whl (fun v => a1 = v.1 ∧ a2 = v.2.1 ∧ ¬ v.2.2.2 < 0) (fun v => mUp v.2.2.2) ⟨rfl, rfl, nn0⟩ (fun v hv => ?_)
  obtain ⟨x_3, x_4, x_5, x_6⟩ := v
  obtain ⟨rfl, rfl, rhn_7⟩ := hv
  have hn_7 : ¬ x_6 < 0 := rhn_7
  show ok (F_X8_linesAt_B5 s a1 a2 x_5 x_6) _
  unfold F_X8_linesAt_B5
  refine ok_ite (fun h_8 => ?_) (fun h_9 => ?_)
  · exact ok_some (lp_inr (trivial))
  · refine ok_b1 (T_X10_at isT_4 hR.1) (fun v_10 _ => ?_)
    refine ok_ite (fun h_12 => ?_) (fun h_13 => ?_)
    · refine ok_b1 (T_X10_at isT_4 hR.1) (fun v_14 _ => ?_)
      refine ok_ite (fun h_16 => ?_) (fun h_17 => ?_)
      · unfold F_X8_linesAt_59
        refine ok_ite (fun h_18 => ?_) (fun h_19 => ?_)
        · unfold F_X8_linesAt_72
          exact ok_some (lp_inl ⟨rfl, rfl, (up_nn hn_7 (ge_t h_9))⟩ (up_t (ge_t h_9)))
        · unfold F_X8_linesAt_72
          exact ok_some (lp_inl ⟨rfl, rfl, (up_nn hn_7 (ge_t h_9))⟩ (up_t (ge_t h_9)))
      · unfold F_X8_linesAt_58
        unfold F_X8_linesAt_59
        refine ok_ite (fun h_20 => ?_) (fun h_21 => ?_)
        · unfold F_X8_linesAt_72
          exact ok_some (lp_inl ⟨rfl, rfl, (up_nn hn_7 (ge_t h_9))⟩ (up_t (ge_t h_9)))
        · unfold F_X8_linesAt_72
          exact ok_some (lp_inl ⟨rfl, rfl, (up_nn hn_7 (ge_t h_9))⟩ (up_t (ge_t h_9)))
    · unfold F_X8_linesAt_58
      unfold F_X8_linesAt_59
      refine ok_ite (fun h_22 => ?_) (fun h_23 => ?_)
      · unfold F_X8_linesAt_72
        exact ok_some (lp_inl ⟨rfl, rfl, (up_nn hn_7 (ge_t h_9))⟩ (up_t (ge_t h_9)))
      · unfold F_X8_linesAt_72
        exact ok_some (lp_inl ⟨rfl, rfl, (up_nn hn_7 (ge_t h_9))⟩ (up_t (ge_t h_9)))
theorem T_X8_clerkOfLastGoing {s : mG} {a1 : Int32} (hI : IC s) : ok (F_X8_clerkOfLastGoing s a1) PT := by
  have hR : RC true s s := RC_refl hI
  unfold F_X8_clerkOfLastGoing
  unfold F_X8_clerkOfLastGoing_L13
  refine ok_whl (fun v => a1 = v.1) (fun v => mDn v.2) rfl (fun v hv => ?_)
  obtain ⟨x_4, x_5⟩ := v
  obtain rfl := hv
  show ok (F_X8_clerkOfLastGoing_B13 s a1 x_5) _
  unfold F_X8_clerkOfLastGoing_B13
  refine ok_ite (fun h_6 => ?_) (fun h_7 => ?_)
  · exact ok_some (lp_inr (trivial))
  · refine ok_b1 (T_X10_at isT_4 hR.1) (fun v_8 _ => ?_)
    refine ok_ite (fun h_10 => ?_) (fun h_11 => ?_)
    · refine ok_b1 (T_X10_at isT_4 hR.1) (fun v_12 _ => ?_)
      refine ok_ite (fun h_14 => ?_) (fun h_15 => ?_)
      · refine ok_b1 (T_X10_at isT_4 hR.1) (fun v_16 _ => ?_)
        exact ok_some (lp_inr (trivial))
      · unfold F_X8_clerkOfLastGoing_61
        exact ok_some (lp_inl rfl (dn_t h_7))
    · unfold F_X8_clerkOfLastGoing_61
      exact ok_some (lp_inl rfl (dn_t h_7))
theorem T_X8_outSeenBy {s : mG} {a1 : Int32} (hI : IC s) : ok (F_X8_outSeenBy s a1) PT := by
  have hR : RC true s s := RC_refl hI
  unfold F_X8_outSeenBy
  unfold F_X8_outSeenBy_L4
  refine ok_whl (fun v => a1 = v.1 ∧ ¬ v.2.2 < 0) (fun v => mUp v.2.2) ⟨rfl, nn0⟩ (fun v hv => ?_)
  obtain ⟨x_3, x_4, x_5⟩ := v
  obtain ⟨rfl, rhn_6⟩ := hv
  have hn_6 : ¬ x_5 < 0 := rhn_6
  show ok (F_X8_outSeenBy_B4 s a1 x_4 x_5) _
  unfold F_X8_outSeenBy_B4
  refine ok_ite (fun h_7 => ?_) (fun h_8 => ?_)
  · exact ok_some (lp_inr (trivial))
  · refine ok_b1 (T_X2_isOut isH_1 hR.1) (fun v_9 (hv_10 : PB v_9) => ?_)
    refine ok_ite (fun h_11 => ?_) (fun h_12 => ?_)
    · unfold F_X8_outSeenBy_45
      unfold F_X8_outSeenBy_46
      exact ok_some (lp_inl ⟨rfl, (up_nn hn_6 (ge_t h_8))⟩ (up_t (ge_t h_8)))
    · refine ok_b1 (T_X8_clerkOfLastGoing hR.1) (fun v_13 _ => ?_)
      refine ok_ite (fun h_15 => ?_) (fun h_16 => ?_)
      · unfold F_X8_outSeenBy_46
        exact ok_some (lp_inl ⟨rfl, (up_nn hn_6 (ge_t h_8))⟩ (up_t (ge_t h_8)))
      · unfold F_X8_outSeenBy_45
        unfold F_X8_outSeenBy_46
        exact ok_some (lp_inl ⟨rfl, (up_nn hn_6 (ge_t h_8))⟩ (up_t (ge_t h_8)))
theorem T_X9_roomsBefore {s : mG} {a1 : Int32} (hI : IC s) : ok (F_X9_roomsBefore s a1) PT := by
  have hR : RC true s s := RC_refl hI
  unfold F_X9_roomsBefore
  unfold F_X9_roomsBefore_L4
  refine ok_whl (fun v => a1 = v.1 ∧ ¬ v.2.2 < 0) (fun v => mUp v.2.2) ⟨rfl, nn0⟩ (fun v hv => ?_)
  obtain ⟨x_7, x_8, x_9⟩ := v
  obtain ⟨rfl, rhn_10⟩ := hv
  have hn_10 : ¬ x_9 < 0 := rhn_10
  show ok (F_X9_roomsBefore_B4 s a1 x_8 x_9) _
  unfold F_X9_roomsBefore_B4
  refine ok_ite (fun h_11 => ?_) (fun h_12 => ?_)
  · exact ok_some (lp_inr (trivial))
  · refine ok_b1 (T_X11_cell sh84 hR.1) (fun v_13 _ => ?_)
    refine ok_b1 (T_X11_cell sh84 hR.1) (fun v_15 _ => ?_)
    refine ok_ite (fun h_17 => ?_) (fun h_18 => ?_)
    · unfold F_X9_roomsBefore_42
      refine ok_b1 (T_X11_cell sh84 hR.1) (fun v_19 _ => ?_)
      refine ok_b1 (T_X11_cell sh84 hR.1) (fun v_21 _ => ?_)
      refine ok_ite (fun h_23 => ?_) (fun h_24 => ?_)
      · unfold F_X9_roomsBefore_68
        refine ok_ite (fun h_25 => ?_) (fun h_26 => ?_)
        · refine ok_ite (fun h_27 => ?_) (fun h_28 => ?_)
          · unfold F_X9_roomsBefore_90
            unfold F_X9_roomsBefore_91
            exact ok_some (lp_inl ⟨rfl, (up_nn hn_10 (ge_t h_12))⟩ (up_t (ge_t h_12)))
          · refine ok_ite (fun h_29 => ?_) (fun h_30 => ?_)
            · unfold F_X9_roomsBefore_90
              unfold F_X9_roomsBefore_91
              exact ok_some (lp_inl ⟨rfl, (up_nn hn_10 (ge_t h_12))⟩ (up_t (ge_t h_12)))
            · unfold F_X9_roomsBefore_86
              unfold F_X9_roomsBefore_91
              exact ok_some (lp_inl ⟨rfl, (up_nn hn_10 (ge_t h_30))⟩ (up_t (ge_t h_30)))
        · unfold F_X9_roomsBefore_86
          unfold F_X9_roomsBefore_91
          exact ok_some (lp_inl ⟨rfl, (up_nn hn_10 (ge_t h_12))⟩ (up_t (ge_t h_12)))
      · unfold F_X9_roomsBefore_68
        refine ok_ite (fun h_31 => ?_) (fun h_32 => ?_)
        · refine ok_ite (fun h_33 => ?_) (fun h_34 => ?_)
          · unfold F_X9_roomsBefore_90
            unfold F_X9_roomsBefore_91
            exact ok_some (lp_inl ⟨rfl, (up_nn hn_10 (ge_t h_12))⟩ (up_t (ge_t h_12)))
          · refine ok_ite (fun h_35 => ?_) (fun h_36 => ?_)
            · unfold F_X9_roomsBefore_90
              unfold F_X9_roomsBefore_91
              exact ok_some (lp_inl ⟨rfl, (up_nn hn_10 (ge_t h_12))⟩ (up_t (ge_t h_12)))
            · unfold F_X9_roomsBefore_86
              unfold F_X9_roomsBefore_91
              exact ok_some (lp_inl ⟨rfl, (up_nn hn_10 (ge_t h_36))⟩ (up_t (ge_t h_36)))
        · unfold F_X9_roomsBefore_86
          unfold F_X9_roomsBefore_91
          exact ok_some (lp_inl ⟨rfl, (up_nn hn_10 (ge_t h_12))⟩ (up_t (ge_t h_12)))
    · unfold F_X9_roomsBefore_42
      refine ok_b1 (T_X11_cell sh84 hR.1) (fun v_37 _ => ?_)
      refine ok_b1 (T_X11_cell sh84 hR.1) (fun v_39 _ => ?_)
      refine ok_ite (fun h_41 => ?_) (fun h_42 => ?_)
      · unfold F_X9_roomsBefore_68
        refine ok_ite (fun h_43 => ?_) (fun h_44 => ?_)
        · refine ok_ite (fun h_45 => ?_) (fun h_46 => ?_)
          · unfold F_X9_roomsBefore_90
            unfold F_X9_roomsBefore_91
            exact ok_some (lp_inl ⟨rfl, (up_nn hn_10 (ge_t h_12))⟩ (up_t (ge_t h_12)))
          · refine ok_ite (fun h_47 => ?_) (fun h_48 => ?_)
            · unfold F_X9_roomsBefore_90
              unfold F_X9_roomsBefore_91
              exact ok_some (lp_inl ⟨rfl, (up_nn hn_10 (ge_t h_12))⟩ (up_t (ge_t h_12)))
            · unfold F_X9_roomsBefore_86
              unfold F_X9_roomsBefore_91
              exact ok_some (lp_inl ⟨rfl, (up_nn hn_10 (ge_t h_48))⟩ (up_t (ge_t h_48)))
        · unfold F_X9_roomsBefore_86
          unfold F_X9_roomsBefore_91
          exact ok_some (lp_inl ⟨rfl, (up_nn hn_10 (ge_t h_12))⟩ (up_t (ge_t h_12)))
      · unfold F_X9_roomsBefore_68
        refine ok_ite (fun h_49 => ?_) (fun h_50 => ?_)
        · refine ok_ite (fun h_51 => ?_) (fun h_52 => ?_)
          · unfold F_X9_roomsBefore_90
            unfold F_X9_roomsBefore_91
            exact ok_some (lp_inl ⟨rfl, (up_nn hn_10 (ge_t h_12))⟩ (up_t (ge_t h_12)))
          · refine ok_ite (fun h_53 => ?_) (fun h_54 => ?_)
            · unfold F_X9_roomsBefore_90
              unfold F_X9_roomsBefore_91
              exact ok_some (lp_inl ⟨rfl, (up_nn hn_10 (ge_t h_12))⟩ (up_t (ge_t h_12)))
            · unfold F_X9_roomsBefore_86
              unfold F_X9_roomsBefore_91
              exact ok_some (lp_inl ⟨rfl, (up_nn hn_10 (ge_t h_54))⟩ (up_t (ge_t h_54)))
        · unfold F_X9_roomsBefore_86
          unfold F_X9_roomsBefore_91
          exact ok_some (lp_inl ⟨rfl, (up_nn hn_10 (ge_t h_12))⟩ (up_t (ge_t h_12)))
theorem T_X9_roomAt {a1 : Int32} {s : mG} (hI : IC s) : ok (F_X9_roomAt a1 s) (fun τ => RC true s τ.2) := by
  have hR : RC true s s := RC_refl hI
  unfold F_X9_roomAt
  unfold F_X9_roomAt_L2
  refine ok_whl (fun v => a1 = v.1 ∧ RC true s v.2.2 ∧ ¬ v.2.1 < 0) (fun v => mUp v.2.1) ⟨rfl, hR, nn0⟩ (fun v hv => ?_)
  obtain ⟨x_5, x_6, s_7⟩ := v
  obtain ⟨rfl, rhs_8, rhn_9⟩ := hv
  have hs_8 : RC true s s_7 := rhs_8
  have hn_9 : ¬ x_6 < 0 := rhn_9
  show ok (F_X9_roomAt_B2 a1 x_6 s_7) _
  unfold F_X9_roomAt_B2
  refine ok_ite (fun h_10 => ?_) (fun h_11 => ?_)
  · refine ok_b1r ?_
    unfold F_X9_roomAt_L51
    refine ok_whl (fun v => a1 = v.1 ∧ RC true s v.2.2 ∧ ¬ v.2.1 < 0) (fun v => mUp v.2.1) ⟨rfl, hs_8, nn0⟩ (fun v hv => ?_)
    obtain ⟨x_13, x_14, s_15⟩ := v
    obtain ⟨rfl, rhs_16, rhn_17⟩ := hv
    have hs_16 : RC true s s_15 := rhs_16
    have hn_17 : ¬ x_14 < 0 := rhn_17
    show ok (F_X9_roomAt_B51 a1 x_14 s_15) _
    unfold F_X9_roomAt_B51
    refine ok_ite (fun h_18 => ?_) (fun h_19 => ?_)
    · exact ok_some (lp_inr (hs_16))
    · refine ok_b1 (T_X9_roomsBefore hs_16.1) (fun v_20 _ => ?_)
      refine ok_ite (fun h_22 => ?_) (fun h_23 => ?_)
      · exact ok_some (lp_inr (hs_16))
      · exact ok_some (lp_inl ⟨rfl, hs_16, (up_nn hn_17 (ge_t h_19))⟩ (up_t (ge_t h_19)))
  · refine ok_b1 (T_X10_at isT_14 hs_8.1) (fun v_24 _ => ?_)
    refine ok_b2 (ok_tr2 hs_8 (T_X0_sureOf hs_8.1)) (fun v_26 s_27 (hs_28 : RC true s s_27) => ?_)
    refine ok_b1 (ok_tr hs_28 (T_X11_put sh84 (by decide) hs_28.1)) (fun s_29 (hs_30 : RC true s s_29) => ?_)
    exact ok_some (lp_inl ⟨rfl, hs_30, (up_nn hn_9 (ge_t h_11))⟩ (up_t (ge_t h_11)))
theorem T_X9_worthOf {s : mG} {a1 : Int32} (hI : IC s) : ok (F_X9_worthOf s a1) PT := by
  have hR : RC true s s := RC_refl hI
  unfold F_X9_worthOf
  unfold F_X9_worthOf_L4
  refine ok_whl (fun v => a1 = v.1 ∧ ¬ v.2.2 < 0) (fun v => mUp v.2.2) ⟨rfl, nn0⟩ (fun v hv => ?_)
  obtain ⟨x_2, x_3, x_4⟩ := v
  obtain ⟨rfl, rhn_5⟩ := hv
  have hn_5 : ¬ x_4 < 0 := rhn_5
  show ok (F_X9_worthOf_B4 s a1 x_3 x_4) _
  unfold F_X9_worthOf_B4
  refine ok_ite (fun h_6 => ?_) (fun h_7 => ?_)
  · exact ok_some (lp_inr (trivial))
  · refine ok_ite (fun h_8 => ?_) (fun h_9 => ?_)
    · refine ok_b1 (T_X10_at isT_14 hR.1) (fun v_10 _ => ?_)
      unfold F_X9_worthOf_44
      exact ok_some (lp_inl ⟨rfl, (up_nn hn_5 (ge_t h_7))⟩ (up_t (ge_t h_7)))
    · unfold F_X9_worthOf_44
      exact ok_some (lp_inl ⟨rfl, (up_nn hn_5 (ge_t h_7))⟩ (up_t (ge_t h_7)))
theorem T_X9_isBetter {s : mG} {a1 : Int32} {a2 : Int32} (hI : IC s) : ok (F_X9_isBetter s a1 a2) PB := by
  have hR : RC true s s := RC_refl hI
  unfold F_X9_isBetter
  refine ok_b1 (T_X9_worthOf hR.1) (fun v_1 _ => ?_)
  refine ok_b1 (T_X9_worthOf hR.1) (fun v_3 _ => ?_)
  refine ok_ite (fun h_5 => ?_) (fun h_6 => ?_)
  · unfold F_X9_isBetter_31
    exact ok_some pb1
  · refine ok_ite (fun h_7 => ?_) (fun h_8 => ?_)
    · refine ok_b1 (T_J6_bitCount_0f7a4 hR.1) (fun v_9 _ => ?_)
      refine ok_b1 (T_J6_bitCount_0f7a4 hR.1) (fun v_11 _ => ?_)
      refine ok_ite (fun h_13 => ?_) (fun h_14 => ?_)
      · unfold F_X9_isBetter_35
        exact ok_some pb0
      · unfold F_X9_isBetter_31
        exact ok_some pb1
    · unfold F_X9_isBetter_35
      exact ok_some pb0
theorem T_X9_minutesDueBy {s : mG} {a1 : Int32} {a2 : Int32} (hI : IC s) : ok (F_X9_minutesDueBy s a1 a2) PT := by
  have hR : RC true s s := RC_refl hI
  unfold F_X9_minutesDueBy
  unfold F_X9_minutesDueBy_L5
  refine ok_whl (fun v => a1 = v.1 ∧ a2 = v.2.1 ∧ ¬ v.2.2.2 < 0) (fun v => mUp v.2.2.2) ⟨rfl, rfl, nn0⟩ (fun v hv => ?_)
  obtain ⟨x_5, x_6, x_7, x_8⟩ := v
  obtain ⟨rfl, rfl, rhn_9⟩ := hv
  have hn_9 : ¬ x_8 < 0 := rhn_9
  show ok (F_X9_minutesDueBy_B5 s a1 a2 x_7 x_8) _
  unfold F_X9_minutesDueBy_B5
  refine ok_ite (fun h_10 => ?_) (fun h_11 => ?_)
  · exact ok_some (lp_inr (trivial))
  · refine ok_ite (fun h_12 => ?_) (fun h_13 => ?_)
    · refine ok_b1 (T_X10_at isT_14 hR.1) (fun v_14 _ => ?_)
      refine ok_ite (fun h_16 => ?_) (fun h_17 => ?_)
      · unfold F_X9_minutesDueBy_51
        unfold F_X9_minutesDueBy_52
        refine ok_ite (fun h_18 => ?_) (fun h_19 => ?_)
        · unfold F_X9_minutesDueBy_77
          exact ok_some (lp_inl ⟨rfl, rfl, (up_nn hn_9 (ge_t h_11))⟩ (up_t (ge_t h_11)))
        · refine ok_b1 (T_X10_at isT_14 hR.1) (fun v_20 _ => ?_)
          unfold F_X9_minutesDueBy_77
          exact ok_some (lp_inl ⟨rfl, rfl, (up_nn hn_9 (ge_t h_11))⟩ (up_t (ge_t h_11)))
      · unfold F_X9_minutesDueBy_52
        refine ok_ite (fun h_22 => ?_) (fun h_23 => ?_)
        · unfold F_X9_minutesDueBy_77
          exact ok_some (lp_inl ⟨rfl, rfl, (up_nn hn_9 (ge_t h_11))⟩ (up_t (ge_t h_11)))
        · refine ok_b1 (T_X10_at isT_14 hR.1) (fun v_24 _ => ?_)
          unfold F_X9_minutesDueBy_77
          exact ok_some (lp_inl ⟨rfl, rfl, (up_nn hn_9 (ge_t h_11))⟩ (up_t (ge_t h_11)))
    · unfold F_X9_minutesDueBy_51
      unfold F_X9_minutesDueBy_52
      refine ok_ite (fun h_26 => ?_) (fun h_27 => ?_)
      · unfold F_X9_minutesDueBy_77
        exact ok_some (lp_inl ⟨rfl, rfl, (up_nn hn_9 (ge_t h_11))⟩ (up_t (ge_t h_11)))
      · refine ok_b1 (T_X10_at isT_14 hR.1) (fun v_28 _ => ?_)
        unfold F_X9_minutesDueBy_77
        exact ok_some (lp_inl ⟨rfl, rfl, (up_nn hn_9 (ge_t h_11))⟩ (up_t (ge_t h_11)))
theorem T_X9_canBeDone {s : mG} {a1 : Int32} (hI : IC s) : ok (F_X9_canBeDone s a1) PB := by
  have hR : RC true s s := RC_refl hI
  unfold F_X9_canBeDone
  unfold F_X9_canBeDone_L2
  refine ok_whl (fun v => a1 = v.1 ∧ ¬ v.2 < 0) (fun v => mUp v.2) ⟨rfl, nn0⟩ (fun v hv => ?_)
  obtain ⟨x_3, x_4⟩ := v
  obtain ⟨rfl, rhn_5⟩ := hv
  have hn_5 : ¬ x_4 < 0 := rhn_5
  show ok (F_X9_canBeDone_B2 s a1 x_4) _
  unfold F_X9_canBeDone_B2
  refine ok_ite (fun h_6 => ?_) (fun h_7 => ?_)
  · exact ok_some (lp_inr (pb1))
  · refine ok_b1 (T_X10_at isT_14 hR.1) (fun v_8 _ => ?_)
    refine ok_ite (fun h_10 => ?_) (fun h_11 => ?_)
    · refine ok_b1 (T_X9_minutesDueBy hR.1) (fun v_12 _ => ?_)
      refine ok_ite (fun h_14 => ?_) (fun h_15 => ?_)
      · unfold F_X9_canBeDone_50
        exact ok_some (lp_inl ⟨rfl, (up_nn hn_5 (ge_t h_7))⟩ (up_t (ge_t h_7)))
      · exact ok_some (lp_inr (pb0))
    · unfold F_X9_canBeDone_50
      exact ok_some (lp_inl ⟨rfl, (up_nn hn_5 (ge_t h_7))⟩ (up_t (ge_t h_7)))
theorem T_X9_bestRooms {s : mG} (hI : IC s) : ok (F_X9_bestRooms s) PT := by
  have hR : RC true s s := RC_refl hI
  unfold F_X9_bestRooms
  unfold F_X9_bestRooms_L4
  refine ok_whl (fun v => ¬ v.2 < 0) (fun v => mUp v.2) nn1 (fun v hv => ?_)
  obtain ⟨x_3, x_4⟩ := v
  have hn_5 : ¬ x_4 < 0 := hv
  show ok (F_X9_bestRooms_B4 s x_3 x_4) _
  unfold F_X9_bestRooms_B4
  refine ok_ite (fun h_6 => ?_) (fun h_7 => ?_)
  · exact ok_some (lp_inr (trivial))
  · refine ok_b1 (T_X9_canBeDone hR.1) (fun v_8 (hv_9 : PB v_8) => ?_)
    refine ok_ite (fun h_10 => ?_) (fun h_11 => ?_)
    · unfold F_X9_bestRooms_39
      exact ok_some (lp_inl (up_nn hn_5 (ge_t h_7)) (up_t (ge_t h_7)))
    · refine ok_b1 (T_X9_isBetter hR.1) (fun v_12 (hv_13 : PB v_12) => ?_)
      refine ok_ite (fun h_14 => ?_) (fun h_15 => ?_)
      · unfold F_X9_bestRooms_39
        exact ok_some (lp_inl (up_nn hn_5 (ge_t h_7)) (up_t (ge_t h_7)))
      · unfold F_X9_bestRooms_39
        exact ok_some (lp_inl (up_nn hn_5 (ge_t h_7)) (up_t (ge_t h_7)))
theorem T_X9_searchOn {rec : Int32 → Int32 → Int32 → Int32 → Int64 → mG → Option (mG)} {a1 : Int32} {a2 : Int32} {a3 : Int32} {a4 : Int32} {a5 : Int64} {s : mG} (hrec : ¬ ci 4 ≤ a4 → ∀ (b1 b2 b3 : Int32) (b5 : Int64) (s : mG), IC s → ok (rec b1 b2 b3 (a4 + ci 1) b5 s) (RC true s)) (hI : IC s) : ok (F_X9_searchOn rec a1 a2 a3 a4 a5 s) (RC true s) := by
  have hR : RC true s s := RC_refl hI
  unfold F_X9_searchOn
  refine ok_ite (fun h_1 => ?_) (fun h_2 => ?_)
  · unfold F_X9_searchOn_62
    unfold F_X9_searchOn_L65
    refine ok_whl (fun v => a1 = v.1 ∧ a2 = v.2.1 ∧ a3 = v.2.2.1 ∧ a4 = v.2.2.2.1 ∧ a5 = v.2.2.2.2.1 ∧ RC true s v.2.2.2.2.2.2 ∧ ¬ v.2.2.2.2.2.1 < 0) (fun v => mUp v.2.2.2.2.2.1) ⟨rfl, rfl, rfl, rfl, rfl, hR, nn0⟩ (fun v hv => ?_)
    obtain ⟨x_7, x_8, x_9, x_10, x_11, x_12, s_13⟩ := v
    obtain ⟨rfl, rfl, rfl, rfl, rfl, rhs_14, rhn_15⟩ := hv
    have hs_14 : RC true s s_13 := rhs_14
    have hn_15 : ¬ x_12 < 0 := rhn_15
    show ok (F_X9_searchOn_B65 rec a1 a2 a3 a4 a5 x_12 s_13) _
    unfold F_X9_searchOn_B65
    refine ok_ite (fun h_16 => ?_) (fun h_17 => ?_)
    · exact ok_some (lp_inr (hs_14))
    · refine ok_ite (fun h_18 => ?_) (fun h_19 => ?_)
      · exact ok_some (lp_inr (hs_14))
      · extract_lets +onlyGivenNames v_20
        clear_value v_20
        refine ok_ite (fun h_21 => ?_) (fun h_22 => ?_)
        · refine ok_ite (fun h_23 => ?_) (fun h_24 => ?_)
          · unfold F_X9_searchOn_148
            exact ok_some (lp_inl ⟨rfl, rfl, rfl, rfl, rfl, hs_14, (up_nn hn_15 (ge_t h_17))⟩ (up_t (ge_t h_17)))
          · refine ok_b1 (ok_tr hs_14 (T_X11_put sh86 (by decide) hs_14.1)) (fun s_25 (hs_26 : RC true s s_25) => ?_)
            refine ok_b1 (T_X11_cell sh85 hs_26.1) (fun v_27 _ => ?_)
            refine ok_b1 (ok_tr hs_26 (hrec h_19 _ _ _ _ _ hs_26.1)) (fun s_29 (hs_30 : RC true s s_29) => ?_)
            unfold F_X9_searchOn_148
            exact ok_some (lp_inl ⟨rfl, rfl, rfl, rfl, rfl, hs_30, (up_nn hn_15 (ge_t h_17))⟩ (up_t (ge_t h_17)))
        · unfold F_X9_searchOn_148
          exact ok_some (lp_inl ⟨rfl, rfl, rfl, rfl, rfl, hs_14, (up_nn hn_15 (ge_t h_17))⟩ (up_t (ge_t h_17)))
  · extract_lets +onlyGivenNames s_31
    have hs_32 : RC true s s_31 := (RC_muL hR (by decide))
    clear_value s_31
    extract_lets +onlyGivenNames s_33
    have hs_34 : RC true s s_33 := (RC_mu hs_32 (by decide))
    clear_value s_33
    unfold F_X9_searchOn_L25
    refine ok_whl (fun v => a1 = v.1 ∧ a2 = v.2.1 ∧ a3 = v.2.2.1 ∧ a4 = v.2.2.2.1 ∧ a5 = v.2.2.2.2.1 ∧ RC true s v.2.2.2.2.2.2 ∧ ¬ v.2.2.2.2.2.1 < 0) (fun v => mUp v.2.2.2.2.2.1) ⟨rfl, rfl, rfl, rfl, rfl, hs_34, nn0⟩ (fun v hv => ?_)
    obtain ⟨x_37, x_38, x_39, x_40, x_41, x_42, s_43⟩ := v
    obtain ⟨rfl, rfl, rfl, rfl, rfl, rhs_44, rhn_45⟩ := hv
    have hs_44 : RC true s s_43 := rhs_44
    have hn_45 : ¬ x_42 < 0 := rhn_45
    show ok (F_X9_searchOn_B25 rec a1 a2 a3 a4 a5 x_42 s_43) _
    unfold F_X9_searchOn_B25
    refine ok_ite (fun h_46 => ?_) (fun h_47 => ?_)
    · refine ok_b1r ?_
      unfold F_X9_searchOn_62
      unfold F_X9_searchOn_L65
      refine ok_whl (fun v => a1 = v.1 ∧ a2 = v.2.1 ∧ a3 = v.2.2.1 ∧ a4 = v.2.2.2.1 ∧ a5 = v.2.2.2.2.1 ∧ RC true s v.2.2.2.2.2.2 ∧ ¬ v.2.2.2.2.2.1 < 0) (fun v => mUp v.2.2.2.2.2.1) ⟨rfl, rfl, rfl, rfl, rfl, hs_44, nn0⟩ (fun v hv => ?_)
      obtain ⟨x_48, x_49, x_50, x_51, x_52, x_53, s_54⟩ := v
      obtain ⟨rfl, rfl, rfl, rfl, rfl, rhs_55, rhn_56⟩ := hv
      have hs_55 : RC true s s_54 := rhs_55
      have hn_56 : ¬ x_53 < 0 := rhn_56
      show ok (F_X9_searchOn_B65 rec a1 a2 a3 a4 a5 x_53 s_54) _
      unfold F_X9_searchOn_B65
      refine ok_ite (fun h_57 => ?_) (fun h_58 => ?_)
      · exact ok_some (lp_inr (hs_55))
      · refine ok_ite (fun h_59 => ?_) (fun h_60 => ?_)
        · exact ok_some (lp_inr (hs_55))
        · extract_lets +onlyGivenNames v_61
          clear_value v_61
          refine ok_ite (fun h_62 => ?_) (fun h_63 => ?_)
          · refine ok_ite (fun h_64 => ?_) (fun h_65 => ?_)
            · unfold F_X9_searchOn_148
              exact ok_some (lp_inl ⟨rfl, rfl, rfl, rfl, rfl, hs_55, (up_nn hn_56 (ge_t h_58))⟩ (up_t (ge_t h_58)))
            · refine ok_b1 (ok_tr hs_55 (T_X11_put sh86 (by decide) hs_55.1)) (fun s_66 (hs_67 : RC true s s_66) => ?_)
              refine ok_b1 (T_X11_cell sh85 hs_67.1) (fun v_68 _ => ?_)
              refine ok_b1 (ok_tr hs_67 (hrec h_60 _ _ _ _ _ hs_67.1)) (fun s_70 (hs_71 : RC true s s_70) => ?_)
              unfold F_X9_searchOn_148
              exact ok_some (lp_inl ⟨rfl, rfl, rfl, rfl, rfl, hs_71, (up_nn hn_56 (ge_t h_58))⟩ (up_t (ge_t h_58)))
          · unfold F_X9_searchOn_148
            exact ok_some (lp_inl ⟨rfl, rfl, rfl, rfl, rfl, hs_55, (up_nn hn_56 (ge_t h_58))⟩ (up_t (ge_t h_58)))
    · refine ok_ite (fun h_72 => ?_) (fun h_73 => ?_)
      · refine ok_b1r ?_
        unfold F_X9_searchOn_62
        unfold F_X9_searchOn_L65
        refine ok_whl (fun v => a1 = v.1 ∧ a2 = v.2.1 ∧ a3 = v.2.2.1 ∧ a4 = v.2.2.2.1 ∧ a5 = v.2.2.2.2.1 ∧ RC true s v.2.2.2.2.2.2 ∧ ¬ v.2.2.2.2.2.1 < 0) (fun v => mUp v.2.2.2.2.2.1) ⟨rfl, rfl, rfl, rfl, rfl, hs_44, nn0⟩ (fun v hv => ?_)
        obtain ⟨x_74, x_75, x_76, x_77, x_78, x_79, s_80⟩ := v
        obtain ⟨rfl, rfl, rfl, rfl, rfl, rhs_81, rhn_82⟩ := hv
        have hs_81 : RC true s s_80 := rhs_81
        have hn_82 : ¬ x_79 < 0 := rhn_82
        show ok (F_X9_searchOn_B65 rec a1 a2 a3 a4 a5 x_79 s_80) _
        unfold F_X9_searchOn_B65
        refine ok_ite (fun h_83 => ?_) (fun h_84 => ?_)
        · exact ok_some (lp_inr (hs_81))
        · refine ok_ite (fun h_85 => ?_) (fun h_86 => ?_)
          · exact ok_some (lp_inr (hs_81))
          · extract_lets +onlyGivenNames v_87
            clear_value v_87
            refine ok_ite (fun h_88 => ?_) (fun h_89 => ?_)
            · refine ok_ite (fun h_90 => ?_) (fun h_91 => ?_)
              · unfold F_X9_searchOn_148
                exact ok_some (lp_inl ⟨rfl, rfl, rfl, rfl, rfl, hs_81, (up_nn hn_82 (ge_t h_84))⟩ (up_t (ge_t h_84)))
              · refine ok_b1 (ok_tr hs_81 (T_X11_put sh86 (by decide) hs_81.1)) (fun s_92 (hs_93 : RC true s s_92) => ?_)
                refine ok_b1 (T_X11_cell sh85 hs_93.1) (fun v_94 _ => ?_)
                refine ok_b1 (ok_tr hs_93 (hrec h_86 _ _ _ _ _ hs_93.1)) (fun s_96 (hs_97 : RC true s s_96) => ?_)
                unfold F_X9_searchOn_148
                exact ok_some (lp_inl ⟨rfl, rfl, rfl, rfl, rfl, hs_97, (up_nn hn_82 (ge_t h_84))⟩ (up_t (ge_t h_84)))
            · unfold F_X9_searchOn_148
              exact ok_some (lp_inl ⟨rfl, rfl, rfl, rfl, rfl, hs_81, (up_nn hn_82 (ge_t h_84))⟩ (up_t (ge_t h_84)))
      · refine ok_b1 (T_X11_cell sh86 hs_44.1) (fun v_98 _ => ?_)
        refine ok_b1 (ok_tr hs_44 (T_X11_put sh87 (by decide) hs_44.1)) (fun s_100 (hs_101 : RC true s s_100) => ?_)
        exact ok_some (lp_inl ⟨rfl, rfl, rfl, rfl, rfl, hs_101, (up_nn hn_45 (ge_t h_73))⟩ (up_t (ge_t h_73)))
theorem TQ_X9 : ∀ (n : Nat) (a4 : Int32), 0 ≤ a4.toInt → a4.toInt ≤ 4 → 4 < a4.toInt + n → ∀ (a1 a2 a3 : Int32) (a5 : Int64) (s : mG), IC s → ok (Q_X9_searchOn n a1 a2 a3 a4 a5 s) (RC true s) := by
  intro n
  induction n with
  | zero => intro a4 h0 h1 h2; omega
  | succ n ih =>
    intro a4 h0 h1 h2 a1 a2 a3 a5 s hI
    show ok (F_X9_searchOn (Q_X9_searchOn n) a1 a2 a3 a4 a5 s) (RC true s)
    refine T_X9_searchOn (fun h b1 b2 b3 b5 s hI => ?_) hI
    rw [Int32.le_iff_toInt_le, show (ci 4).toInt = 4 by decide] at h
    have e := t_up (x := a4) (by omega)
    exact ih _ (by rw [e]; omega) (by rw [e]; omega) (by rw [e]; omega) b1 b2 b3 b5 s hI
theorem T_X9_searchFloors {a1 : Int32} {s : mG} (hI : IC s) : ok (F_X9_searchFloors a1 s) (RC true s) := by
  have hR : RC true s s := RC_refl hI
  unfold F_X9_searchFloors
  unfold F_X9_searchFloors_L2
  refine ok_whl (fun v => a1 = v.1 ∧ RC true s v.2.2 ∧ ¬ v.2.1 < 0) (fun v => mUp v.2.1) ⟨rfl, hR, nn0⟩ (fun v hv => ?_)
  obtain ⟨x_2, x_3, s_4⟩ := v
  obtain ⟨rfl, rhs_5, rhn_6⟩ := hv
  have hs_5 : RC true s s_4 := rhs_5
  have hn_6 : ¬ x_3 < 0 := rhn_6
  show ok (F_X9_searchFloors_B2 a1 x_3 s_4) _
  unfold F_X9_searchFloors_B2
  refine ok_ite (fun h_7 => ?_) (fun h_8 => ?_)
  · refine ok_b1r ?_
    unfold F_X9_searchFloors_L26
    refine ok_whl (fun v => a1 = v.1 ∧ RC true s v.2.2 ∧ ¬ v.2.1 < 0) (fun v => mUp v.2.1) ⟨rfl, hs_5, nn0⟩ (fun v hv => ?_)
    obtain ⟨x_17, x_18, s_19⟩ := v
    obtain ⟨rfl, rhs_20, rhn_21⟩ := hv
    have hs_20 : RC true s s_19 := rhs_20
    have hn_21 : ¬ x_18 < 0 := rhn_21
    show ok (F_X9_searchFloors_B26 a1 x_18 s_19) _
    unfold F_X9_searchFloors_B26
    refine ok_ite (fun h_22 => ?_) (fun h_23 => ?_)
    · extract_lets +onlyGivenNames s_24
      have hs_25 : RC true s s_24 := (RC_muL hs_20 (by decide))
      clear_value s_24
      extract_lets +onlyGivenNames s_26
      have hs_27 : RC true s s_26 := (RC_mu hs_25 (by decide))
      clear_value s_26
      refine ok_b1 (ok_tr hs_27 (T_X9_searchOn (fun _ b1 b2 b3 b5 s h => TQ_X9 5 _ (by decide) (by decide) (by decide) b1 b2 b3 b5 s h) hs_27.1)) (fun s_28 (hs_29 : RC true s s_28) => ?_)
      exact ok_some (lp_inr (hs_29))
    · refine ok_b1 (T_X10_at isT_2 hs_20.1) (fun v_30 _ => ?_)
      refine ok_b1 (T_X11_cell sh85 hs_20.1) (fun v_32 _ => ?_)
      refine ok_b2 (ok_tr2 hs_20 (T_X0_sureOf hs_20.1)) (fun v_34 s_35 (hs_36 : RC true s s_35) => ?_)
      refine ok_b1 (ok_tr hs_36 (T_X11_put sh85 (by decide) hs_36.1)) (fun s_37 (hs_38 : RC true s s_37) => ?_)
      exact ok_some (lp_inl ⟨rfl, hs_38, (up_nn hn_21 (ge_t h_23))⟩ (up_t (ge_t h_23)))
  · refine ok_nn (idx_ok (by decide) hn_6 h_8) ?_
    extract_lets +onlyGivenNames s_39
    have hs_40 : RC true s s_39 := (RC_mw hs_5 (by decide))
    clear_value s_39
    exact ok_some (lp_inl ⟨rfl, hs_40, (up_nn hn_6 (ge_t h_8))⟩ (up_t (ge_t h_8)))
end
end
/-! 54.e -/
section
noncomputable section
theorem T_X11_state {a1 : Int32} {s : mG} (hI : IC s) : ok (F_X11_state a1 s) (fun τ => RC true s τ.2) := by
  have hR : RC true s s := RC_refl hI
  unfold F_X11_state
  extract_lets +onlyGivenNames s_1
  have hs_2 : RC true s s_1 := (RC_mu hR (by decide))
  clear_value s_1
  refine ok_b1 (ok_tr hs_2 (T_X5_forget hs_2.1)) (fun s_3 (hs_4 : RC true s s_3) => ?_)
  exact ok_some hs_4
theorem T_X11_guest {a1 : Int32} {a2 : Int32} {s : mG} (hI : IC s) : ok (F_X11_guest a1 a2 s) (fun τ => RC true s τ.2) := by
  have hR : RC true s s := RC_refl hI
  unfold F_X11_guest
  refine ok_b1 (T_X11_isWithin hR.1) (fun v_1 (hv_2 : PB v_1) => ?_)
  refine ok_ite (fun h_3 => ?_) (fun h_4 => ?_)
  · unfold F_X11_guest_32
    exact ok_some hR
  · refine ok_b1 (T_X11_isWithin hR.1) (fun v_5 (hv_6 : PB v_5) => ?_)
    refine ok_ite (fun h_7 => ?_) (fun h_8 => ?_)
    · unfold F_X11_guest_32
      exact ok_some hR
    · refine ok_b1 (T_X10_isFull isT_2 hR.1) (fun v_9 (hv_10 : PB v_9 ∧ (v_9 = 0 → s.1 2 3 < s.1 2 0)) => ?_)
      refine ok_ite (fun h_11 => ?_) (fun h_12 => ?_)
      · refine ok_b1 (ok_tr hR (T_X5_forget hR.1)) (fun s_13 (hs_14 : RC true s s_13) => ?_)
        refine ok_b2 (ok_tr2 hs_14 (T_X2_addGuest isH_1 hs_14.1)) (fun v_15 s_16 (hs_17 : RC true s s_16) => ?_)
        exact ok_some hs_17
      · unfold F_X11_guest_32
        exact ok_some hR
theorem T_X11_canSet {s : mG} {a1 : Int32} {a2 : Int32} {a3 : Int32} (hI : IC s) : ok (F_X11_canSet s a1 a2 a3) PB := by
  have hR : RC true s s := RC_refl hI
  unfold F_X11_canSet
  refine ok_ite (fun h_1 => ?_) (fun h_2 => ?_)
  · refine ok_b1 (T_X11_isWithin hR.1) (fun v_3 (hv_4 : PB v_3) => ?_)
    refine ok_pp hv_4 ?_
    exact ok_some hv_4
  · refine ok_ite (fun h_5 => ?_) (fun h_6 => ?_)
    · refine ok_b1 (T_X11_isWithin hR.1) (fun v_7 (hv_8 : PB v_7) => ?_)
      refine ok_pp hv_8 ?_
      exact ok_some hv_8
    · refine ok_ite (fun h_9 => ?_) (fun h_10 => ?_)
      · refine ok_b1 (T_X2_isGuest isH_1 hR.1) (fun v_11 (hv_12 : PB v_11) => ?_)
        refine ok_ite (fun h_13 => ?_) (fun h_14 => ?_)
        · unfold F_X11_canSet_69
          exact ok_some pb0
        · refine ok_b1 (T_X11_isWithin hR.1) (fun v_15 (hv_16 : PB v_15) => ?_)
          refine ok_ite (fun h_17 => ?_) (fun h_18 => ?_)
          · unfold F_X11_canSet_69
            exact ok_some pb0
          · exact ok_some pb1
      · exact ok_some pb0
theorem T_X11_set {a1 : Int32} {a2 : Int32} {a3 : Int32} {s : mG} (hI : IC s) : ok (F_X11_set a1 a2 a3 s) (fun τ => PB τ.1 ∧ RC true s τ.2) := by
  have hR : RC true s s := RC_refl hI
  unfold F_X11_set
  refine ok_b1 (T_X11_canSet hR.1) (fun v_1 (hv_2 : PB v_1) => ?_)
  refine ok_ite (fun h_3 => ?_) (fun h_4 => ?_)
  · exact ok_some ⟨pb0, hR⟩
  · refine ok_ite (fun h_5 => ?_) (fun h_6 => ?_)
    · extract_lets +onlyGivenNames s_7
      have hs_8 : RC true s s_7 := (RC_mu hR (by decide))
      clear_value s_7
      unfold F_X11_set_56
      refine ok_b1 (ok_tr hs_8 (T_X5_forget hs_8.1)) (fun s_9 (hs_10 : RC true s s_9) => ?_)
      exact ok_some ⟨pb1, hs_10⟩
    · refine ok_ite (fun h_11 => ?_) (fun h_12 => ?_)
      · extract_lets +onlyGivenNames s_13
        have hs_14 : RC true s s_13 := (RC_mu hR (by decide))
        clear_value s_13
        unfold F_X11_set_56
        refine ok_b1 (ok_tr hs_14 (T_X5_forget hs_14.1)) (fun s_15 (hs_16 : RC true s s_15) => ?_)
        exact ok_some ⟨pb1, hs_16⟩
      · refine ok_b1 (ok_tr hR (T_X10_put isT_2 hR.1)) (fun s_17 (hs_18 : RC true s s_17) => ?_)
        unfold F_X11_set_56
        refine ok_b1 (ok_tr hs_18 (T_X5_forget hs_18.1)) (fun s_19 (hs_20 : RC true s s_19) => ?_)
        exact ok_some ⟨pb1, hs_20⟩
theorem T_X11_hang {a1 : Int32} {a2 : Int32} {s : mG} (hI : IC s) : ok (F_X11_hang a1 a2 s) (fun τ => PB τ.1 ∧ RC true s τ.2) := by
  have hR : RC true s s := RC_refl hI
  unfold F_X11_hang
  refine ok_b1 (T_X2_isGuest isH_1 hR.1) (fun v_1 (hv_2 : PB v_1) => ?_)
  refine ok_ite (fun h_3 => ?_) (fun h_4 => ?_)
  · unfold F_X11_hang_44
    exact ok_some ⟨pb0, hR⟩
  · refine ok_b1 (T_X2_isGuest isH_1 hR.1) (fun v_5 (hv_6 : PB v_5) => ?_)
    refine ok_ite (fun h_7 => ?_) (fun h_8 => ?_)
    · unfold F_X11_hang_44
      exact ok_some ⟨pb0, hR⟩
    · refine ok_b1 (T_X2_isOut isH_1 hR.1) (fun v_9 (hv_10 : PB v_9) => ?_)
      refine ok_ite (fun h_11 => ?_) (fun h_12 => ?_)
      · unfold F_X11_hang_44
        exact ok_some ⟨pb0, hR⟩
      · refine ok_b1 (T_X2_hasKey isH_1 hR.1) (fun v_13 (hv_14 : PB v_13) => ?_)
        refine ok_ite (fun h_15 => ?_) (fun h_16 => ?_)
        · refine ok_b1 (ok_tr hR (T_X5_keep isH_1 hR.1)) (fun s_17 (hs_18 : RC true s s_17) => ?_)
          refine ok_b1 (ok_tr hs_18 (T_X10_put isT_2 hs_18.1)) (fun s_19 (hs_20 : RC true s s_19) => ?_)
          refine ok_b1 (ok_tr hs_20 (T_X2_write isH_1 hs_20.1)) (fun s_21 (hs_22 : RC true s s_21) => ?_)
          exact ok_some ⟨pb1, hs_22⟩
        · unfold F_X11_hang_44
          exact ok_some ⟨pb0, hR⟩
theorem T_X11_looks {a1 : Int32} {a2 : Int32} {a3 : Int32} {s : mG} (hI : IC s) : ok (F_X11_looks a1 a2 a3 s) (fun τ => PB τ.1 ∧ RC true s τ.2) := by
  have hR : RC true s s := RC_refl hI
  unfold F_X11_looks
  refine ok_b1 (T_X2_isGuest isH_1 hR.1) (fun v_1 (hv_2 : PB v_1) => ?_)
  refine ok_ite (fun h_3 => ?_) (fun h_4 => ?_)
  · unfold F_X11_looks_31
    exact ok_some ⟨pb0, hR⟩
  · refine ok_b1 (T_X2_isSign isH_1 hR.1) (fun v_5 (hv_6 : PB v_5) => ?_)
    refine ok_ite (fun h_7 => ?_) (fun h_8 => ?_)
    · unfold F_X11_looks_31
      exact ok_some ⟨pb0, hR⟩
    · refine ok_b1 (T_X11_isWithin hR.1) (fun v_9 (hv_10 : PB v_9) => ?_)
      refine ok_ite (fun h_11 => ?_) (fun h_12 => ?_)
      · unfold F_X11_looks_31
        exact ok_some ⟨pb0, hR⟩
      · refine ok_b1 (T_X10_at isT_2 hR.1) (fun v_13 _ => ?_)
        refine ok_ite (fun h_15 => ?_) (fun h_16 => ?_)
        · exact ok_some ⟨pb0, hR⟩
        · refine ok_b1 (ok_tr hR (T_X5_keep isH_1 hR.1)) (fun s_17 (hs_18 : RC true s s_17) => ?_)
          refine ok_b1 (ok_tr hs_18 (T_X10_put isT_2 hs_18.1)) (fun s_19 (hs_20 : RC true s s_19) => ?_)
          exact ok_some ⟨pb1, hs_20⟩
theorem T_X11_hours {a1 : Int32} {s : mG} (hI : IC s) : ok (F_X11_hours a1 s) (fun τ => RC true s τ.2) := by
  have hR : RC true s s := RC_refl hI
  unfold F_X11_hours
  refine ok_b1 (T_X11_isWithin hR.1) (fun v_1 (hv_2 : PB v_1) => ?_)
  refine ok_ite (fun h_3 => ?_) (fun h_4 => ?_)
  · unfold F_X11_hours_25
    exact ok_some hR
  · refine ok_ite (fun h_5 => ?_) (fun h_6 => ?_)
    · unfold F_X11_hours_L31
      refine ok_whl (fun v => a1 = v.1 ∧ RC true s v.2.2.2 ∧ ¬ v.2.2.1 < 0) (fun v => mUp v.2.2.1) ⟨rfl, hR, nn0⟩ (fun v hv => ?_)
      obtain ⟨x_10, x_11, x_12, s_13⟩ := v
      obtain ⟨rfl, rhs_14, rhn_15⟩ := hv
      have hs_14 : RC true s s_13 := rhs_14
      have hn_15 : ¬ x_12 < 0 := rhn_15
      show ok (F_X11_hours_B31 a1 x_11 x_12 s_13) _
      unfold F_X11_hours_B31
      refine ok_ite (fun h_16 => ?_) (fun h_17 => ?_)
      · exact ok_some (lp_inr (hs_14))
      · refine ok_b1 (ok_tr hs_14 (T_X5_keep isH_1 hs_14.1)) (fun s_18 (hs_19 : RC true s s_18) => ?_)
        refine ok_b2 (ok_tr2 hs_19 (T_X6_passHour hs_19.1)) (fun v_20 s_21 (hs_22 : RC true s s_21) => ?_)
        exact ok_some (lp_inl ⟨rfl, hs_22, (up_nn hn_15 (ge_t h_17))⟩ (up_t (ge_t h_17)))
    · unfold F_X11_hours_25
      exact ok_some hR
/-! X11_feed: by hand -/
def fdr (l : Int32) : Int32 := if l + c8 20 ≤ c16 400 then l + c8 20 else ci (-1)
def fdl (l : Int32) : Int32 := if l + c8 20 ≤ c16 400 then l + c8 20 else l
theorem T_X11_feed {a1 a2 a3 a4 a5 : Int32} {s : mG} (hI : IC s) : ok (F_X11_feed a1 a2 a3 a4 a5 s) (fun τ => RC false s τ.2 ∧ τ.1 = fdr (s.1 55 9) ∧ τ.2.1 55 9 = fdl (s.1 55 9)) := by
  unfold F_X11_feed
  have hh : F_X7_hasSpaceFor s (c8 20) = some (if s.1 55 9 + c8 20 ≤ c16 400 then ci 1 else ci 0) := by
    unfold F_X7_hasSpaceFor
    by_cases h : s.1 55 9 + c8 20 ≤ c16 400
    · rw [if_pos h, if_neg (Int32.not_lt.mpr h)]
    · rw [if_neg h, if_pos (Int32.not_le.mp h)]
  rw [hh, b1_some]
  unfold fdr fdl
  by_cases h : s.1 55 9 + c8 20 ≤ c16 400
  · rw [if_pos h, if_pos h, if_pos h, if_neg (by decide)]
    refine ok_b1 (T_X7_takeFour hI) (fun s5 (h5 : RC false s s5 ∧ s5.1 55 9 = s.1 55 9 + ci 4) => ?_)
    refine ok_b1 (T_X7_takeFour h5.1.1) (fun s7 (h7 : RC false s5 s7 ∧ s7.1 55 9 = s5.1 55 9 + ci 4) => ?_)
    refine ok_b1 (T_X7_takeFour h7.1.1) (fun s9 (h9 : RC false s7 s9 ∧ s9.1 55 9 = s7.1 55 9 + ci 4) => ?_)
    refine ok_b1 (T_X7_takeFour h9.1.1) (fun s11 (h11 : RC false s9 s11 ∧ s11.1 55 9 = s9.1 55 9 + ci 4) => ?_)
    refine ok_b1 (T_X7_takeFour h11.1.1) (fun s13 (h13 : RC false s11 s13 ∧ s13.1 55 9 = s11.1 55 9 + ci 4) => ?_)
    have e : s13.1 55 9 = s.1 55 9 + c8 20 := by
      rw [h13.2, h11.2, h9.2, h7.2, h5.2, Int32.add_assoc, Int32.add_assoc, Int32.add_assoc, Int32.add_assoc]
      rfl
    exact ok_some ⟨RC_trf (RC_trf (RC_trf (RC_trf h5.1 h7.1) h9.1) h11.1) h13.1, e, e⟩
  · rw [if_neg h, if_neg h, if_neg h, if_pos (by decide)]
    exact ok_some ⟨RC_refl hI, rfl, rfl⟩
/-! X11_end: by hand -/
def enl (a l : Int32) : Int32 := if wi a (ci 0) l = 0 then l else a
def enr (a l : Int32) : Int32 := if wi a (ci 0) l = 0 then ci 0 else ci 1
theorem T_X11_end {a1 : Int32} {s : mG} (hI : IC s) : ok (F_X11_end a1 s) (fun τ => RC false s τ.2 ∧ τ.1 = enr a1 (s.1 55 9) ∧ τ.2.1 55 9 = enl a1 (s.1 55 9)) := by
  unfold F_X11_end
  rw [F_isWithin, b1_some]
  unfold enl enr
  by_cases h : wi a1 (ci 0) (s.1 55 9) = 0
  · rw [if_pos h, if_pos h, if_pos h]
    exact ok_some ⟨RC_refl hI, rfl, rfl⟩
  · rw [if_neg h, if_neg h, if_neg h]
    exact ok_some ⟨RC_cell (RC_refl hI) (by decide) (by decide) (fun q => absurd q (by decide)), rfl, mu_sameP⟩
/-! X11_text: by hand -/
theorem T_X11_text {a1 : Int32} {s : mG} (hI : IC s) : ok (F_X11_text a1 s) (fun τ => RC false s τ.2 ∧ τ.2.1 55 9 = ci 0) := by
  unfold F_X11_text
  refine ok_b2 (ok_tr3 (RC_refl hI) (T_X7_readText hI)) (fun v3 s2 (hs2 : PB v3 ∧ RC true s s2) => ?_)
  extract_lets +onlyGivenNames s4
  have h4 : RC false s s4 := RC_cell (RC_weak hs2.2) (by decide) (by decide) (fun q => absurd q (by decide))
  have e4 : s4.1 55 9 = ci 0 := mu_sameP
  clear_value s4
  refine ok_mono (P := fun τ => RC true s4 τ.2) ?_ (fun τ hτ => ⟨RC_tr h4 hτ, (hτ.2.2.2 rfl).trans e4⟩)
  have hR : RC true s4 s4 := RC_refl h4.1
  refine ok_ite (fun _ => ok_some hR) (fun _ => ?_)
  refine ok_ite (fun _ => ?_) (fun _ => ?_)
  · refine ok_b1 (ok_tr hR (T_X10_copyFrom isT_6 isT_56 hR.1)) (fun s8 (h8 : RC true s4 s8) => ?_)
    refine ok_b1 (ok_tr h8 (T_X10_copyFrom isT_8 isT_58 h8.1)) (fun s10 (h10 : RC true s4 s10) => ?_)
    exact ok_some h10
  · refine ok_b1 (ok_tr hR (T_X5_forget hR.1)) (fun s12 (h12 : RC true s4 s12) => ?_)
    refine ok_ite (fun _ => ?_) (fun _ => ?_)
    · refine ok_b1 (ok_tr h12 (T_X10_copyFrom isT_10 isT_60 h12.1)) (fun s15 (h15 : RC true s4 s15) => ?_)
      refine ok_b1 (ok_tr h15 (T_X2_forgetSeen isH_1 h15.1)) (fun s17 (h17 : RC true s4 s17) => ?_)
      exact ok_some h17
    · refine ok_b1 (ok_tr h12 (T_X10_copyFrom isT_12 isT_62 h12.1)) (fun s19 (h19 : RC true s4 s19) => ?_)
      exact ok_some h19
theorem T_X11_fault {s : mG} {a1 : Int32} (hI : IC s) : ok (F_X11_fault s a1) PT := by
  have hR : RC true s s := RC_refl hI
  unfold F_X11_fault
  refine ok_ite (fun h_1 => ?_) (fun h_2 => ?_)
  · exact ok_some trivial
  · refine ok_ite (fun h_3 => ?_) (fun h_4 => ?_)
    · exact ok_some trivial
    · exact ok_some trivial
theorem T_X11_caller {a1 : Int32} {a2 : Int32} {a3 : Int32} {s : mG} (hI : IC s) : ok (F_X11_caller a1 a2 a3 s) (fun τ => RC true s τ.2) := by
  have hR : RC true s s := RC_refl hI
  unfold F_X11_caller
  refine ok_ite (fun h_1 => ?_) (fun h_2 => ?_)
  · refine ok_b1 (ok_tr hR (T_X10_clear isT_16 hR.1)) (fun s_3 (hs_4 : RC true s s_3) => ?_)
    exact ok_some hs_4
  · refine ok_b1 (T_X2_isGuest isH_1 hR.1) (fun v_5 (hv_6 : PB v_5) => ?_)
    refine ok_ite (fun h_7 => ?_) (fun h_8 => ?_)
    · unfold F_X11_caller_63
      exact ok_some hR
    · refine ok_b1 (T_X11_isWithin hR.1) (fun v_9 (hv_10 : PB v_9) => ?_)
      refine ok_ite (fun h_11 => ?_) (fun h_12 => ?_)
      · unfold F_X11_caller_63
        exact ok_some hR
      · refine ok_b1 (T_X11_isWithin hR.1) (fun v_13 (hv_14 : PB v_13) => ?_)
        refine ok_ite (fun h_15 => ?_) (fun h_16 => ?_)
        · unfold F_X11_caller_63
          exact ok_some hR
        · refine ok_b1 (T_X10_isFull isT_16 hR.1) (fun v_17 (hv_18 : PB v_17 ∧ (v_17 = 0 → s.1 16 3 < s.1 16 0)) => ?_)
          refine ok_ite (fun h_19 => ?_) (fun h_20 => ?_)
          · refine ok_b2 (ok_tr2 hR (T_X10_add isT_16 hR.1)) (fun v_21 s_22 (hs_23 : RC true s s_22) => ?_)
            refine ok_b1 (ok_tr hs_23 (T_X10_put isT_16 hs_23.1)) (fun s_24 (hs_25 : RC true s s_24) => ?_)
            refine ok_b1 (ok_tr hs_25 (T_X10_put isT_16 hs_25.1)) (fun s_26 (hs_27 : RC true s s_26) => ?_)
            refine ok_b1 (ok_tr hs_27 (T_X10_put isT_16 hs_27.1)) (fun s_28 (hs_29 : RC true s s_28) => ?_)
            exact ok_some hs_29
          · unfold F_X11_caller_63
            exact ok_some hR
theorem T_X11_room {a1 : Int32} {a2 : Int32} {a3 : Int32} {a4 : Int32} {s : mG} (hI : IC s) : ok (F_X11_room a1 a2 a3 a4 s) (fun τ => RC true s τ.2) := by
  have hR : RC true s s := RC_refl hI
  unfold F_X11_room
  refine ok_ite (fun h_1 => ?_) (fun h_2 => ?_)
  · refine ok_b1 (ok_tr hR (T_X10_clear isT_14 hR.1)) (fun s_3 (hs_4 : RC true s s_3) => ?_)
    exact ok_some hs_4
  · refine ok_b1 (T_X2_isGuest isH_1 hR.1) (fun v_5 (hv_6 : PB v_5) => ?_)
    refine ok_ite (fun h_7 => ?_) (fun h_8 => ?_)
    · unfold F_X11_room_73
      exact ok_some hR
    · refine ok_b1 (T_X11_isWithin hR.1) (fun v_9 (hv_10 : PB v_9) => ?_)
      refine ok_ite (fun h_11 => ?_) (fun h_12 => ?_)
      · unfold F_X11_room_73
        exact ok_some hR
      · refine ok_b1 (T_X11_isWithin hR.1) (fun v_13 (hv_14 : PB v_13) => ?_)
        refine ok_ite (fun h_15 => ?_) (fun h_16 => ?_)
        · unfold F_X11_room_73
          exact ok_some hR
        · refine ok_b1 (T_X11_isWithin hR.1) (fun v_17 (hv_18 : PB v_17) => ?_)
          refine ok_ite (fun h_19 => ?_) (fun h_20 => ?_)
          · unfold F_X11_room_73
            exact ok_some hR
          · refine ok_b1 (T_X10_isFull isT_14 hR.1) (fun v_21 (hv_22 : PB v_21 ∧ (v_21 = 0 → s.1 14 3 < s.1 14 0)) => ?_)
            refine ok_ite (fun h_23 => ?_) (fun h_24 => ?_)
            · refine ok_b2 (ok_tr2 hR (T_X10_add isT_14 hR.1)) (fun v_25 s_26 (hs_27 : RC true s s_26) => ?_)
              refine ok_b1 (ok_tr hs_27 (T_X10_put isT_14 hs_27.1)) (fun s_28 (hs_29 : RC true s s_28) => ?_)
              refine ok_b1 (ok_tr hs_29 (T_X10_put isT_14 hs_29.1)) (fun s_30 (hs_31 : RC true s s_30) => ?_)
              refine ok_b1 (ok_tr hs_31 (T_X10_put isT_14 hs_31.1)) (fun s_32 (hs_33 : RC true s s_32) => ?_)
              refine ok_b1 (ok_tr hs_33 (T_X10_put isT_14 hs_33.1)) (fun s_34 (hs_35 : RC true s s_34) => ?_)
              exact ok_some hs_35
            · unfold F_X11_room_73
              exact ok_some hR
theorem T_X11_undo {s : mG} (hI : IC s) : ok (F_X11_undo s) (fun τ => PB τ.1 ∧ RC true s τ.2) := by
  have hR : RC true s s := RC_refl hI
  unfold F_X11_undo
  refine ok_b2 (ok_tr3 hR (T_X5_giveBack isH_1 hR.1)) (fun v_1 s_2 (hs_3 : PB v_1 ∧ RC true s s_2) => ?_)
  refine ok_pp hs_3.1 ?_
  exact ok_some ⟨hs_3.1, hs_3.2⟩
theorem T_X11_image {a1 : Int32} {s : mG} (hI : IC s) : ok (F_X11_image a1 s) (fun τ => PB τ.1 ∧ RC true s τ.2) := by
  have hR : RC true s s := RC_refl hI
  unfold F_X11_image
  refine ok_ite (fun h_1 => ?_) (fun h_2 => ?_)
  · refine ok_ite (fun h_3 => ?_) (fun h_4 => ?_)
    · exact ok_some ⟨pb0, hR⟩
    · refine ok_b1 (ok_tr hR (T_X2_copyFrom isH_1 isH_18 hR.1)) (fun s_5 (hs_6 : RC true s s_5) => ?_)
      refine ok_b1 (ok_tr hs_6 (T_X5_forget hs_6.1)) (fun s_7 (hs_8 : RC true s s_7) => ?_)
      exact ok_some ⟨pb1, hs_8⟩
  · refine ok_b1 (ok_tr hR (T_X2_copyFrom isH_18 isH_1 hR.1)) (fun s_9 (hs_10 : RC true s s_9) => ?_)
    extract_lets +onlyGivenNames s_11
    have hs_12 : RC true s s_11 := (RC_mu hs_10 (by decide))
    clear_value s_11
    exact ok_some ⟨pb1, hs_12⟩
theorem T_X11_of {a1 : Int32} {a2 : Int32} {s : mG} (hI : IC s) : ok (F_X11_of a1 a2 s) (fun τ => RC true s τ.2) := by
  have hR : RC true s s := RC_refl hI
  unfold F_X11_of
  refine ok_b1 (T_X2_isGuest isH_1 hR.1) (fun v_1 (hv_2 : PB v_1) => ?_)
  refine ok_ite (fun h_3 => ?_) (fun h_4 => ?_)
  · exact ok_some hR
  · refine ok_b1 (T_X11_isWithin hR.1) (fun v_5 (hv_6 : PB v_5) => ?_)
    refine ok_ite (fun h_7 => ?_) (fun h_8 => ?_)
    · refine ok_ite (fun h_9 => ?_) (fun h_10 => ?_)
      · refine ok_b2 (ok_tr2 hR (T_X0_sureOf hR.1)) (fun v_11 s_12 (hs_13 : RC true s s_12) => ?_)
        exact ok_some hs_13
      · refine ok_b1 (T_X11_isWithin hR.1) (fun v_14 (hv_15 : PB v_14) => ?_)
        refine ok_ite (fun h_16 => ?_) (fun h_17 => ?_)
        · exact ok_some hR
        · refine ok_b1 (ok_tr hR (T_X3_face hR.1)) (fun s_18 (hs_19 : RC true s s_18) => ?_)
          refine ok_b2 (ok_tr2 hs_19 (T_X3_tells hs_19.1)) (fun v_20 s_21 (hs_22 : RC true s s_21) => ?_)
          exact ok_some hs_22
    · refine ok_b1 (T_X10_at isT_2 hR.1) (fun v_23 _ => ?_)
      exact ok_some hR
theorem T_X11_hook {s : mG} {a1 : Int32} (hI : IC s) : ok (F_X11_hook s a1) PT := by
  have hR : RC true s s := RC_refl hI
  unfold F_X11_hook
  refine ok_b1 (T_X2_isGuest isH_1 hR.1) (fun v_1 (hv_2 : PB v_1) => ?_)
  refine ok_ite (fun h_3 => ?_) (fun h_4 => ?_)
  · exact ok_some trivial
  · refine ok_b1 (T_X2_keyOn isH_1 hR.1) (fun v_5 _ => ?_)
    exact ok_some trivial
theorem T_X11_sign {s : mG} {a1 : Int32} {a2 : Int32} (hI : IC s) : ok (F_X11_sign s a1 a2) PT := by
  have hR : RC true s s := RC_refl hI
  unfold F_X11_sign
  refine ok_b1 (T_X2_isSign isH_1 hR.1) (fun v_1 (hv_2 : PB v_1) => ?_)
  refine ok_ite (fun h_3 => ?_) (fun h_4 => ?_)
  · exact ok_some trivial
  · refine ok_b1 (T_X11_isWithin hR.1) (fun v_5 (hv_6 : PB v_5) => ?_)
    refine ok_ite (fun h_7 => ?_) (fun h_8 => ?_)
    · refine ok_ite (fun h_9 => ?_) (fun h_10 => ?_)
      · unfold F_X11_sign_73
        exact ok_some trivial
      · refine ok_b1 (T_X2_isGuest isH_1 hR.1) (fun v_11 (hv_12 : PB v_11) => ?_)
        refine ok_ite (fun h_13 => ?_) (fun h_14 => ?_)
        · unfold F_X11_sign_73
          exact ok_some trivial
        · refine ok_b1 (T_X10_at isT_2 hR.1) (fun v_15 _ => ?_)
          exact ok_some trivial
    · refine ok_b1 (T_X10_at isT_10 hR.1) (fun v_17 _ => ?_)
      exact ok_some trivial
theorem T_X11_book {s : mG} {a1 : Int32} {a2 : Int32} (hI : IC s) : ok (F_X11_book s a1 a2) PT := by
  have hR : RC true s s := RC_refl hI
  unfold F_X11_book
  refine ok_b1 (T_X10_hasRow isT_4 hR.1) (fun v_1 (hv_2 : PB v_1) => ?_)
  refine ok_ite (fun h_3 => ?_) (fun h_4 => ?_)
  · unfold F_X11_book_23
    exact ok_some trivial
  · refine ok_b1 (T_X11_isWithin hR.1) (fun v_5 (hv_6 : PB v_5) => ?_)
    refine ok_ite (fun h_7 => ?_) (fun h_8 => ?_)
    · unfold F_X11_book_23
      exact ok_some trivial
    · refine ok_b1 (T_X10_at isT_4 hR.1) (fun v_9 _ => ?_)
      exact ok_some trivial
theorem T_X11_saw {s : mG} {a1 : Int32} {a2 : Int32} (hI : IC s) : ok (F_X11_saw s a1 a2) PT := by
  have hR : RC true s s := RC_refl hI
  unfold F_X11_saw
  refine ok_b1 (T_X2_isGuest isH_1 hR.1) (fun v_1 (hv_2 : PB v_1) => ?_)
  refine ok_ite (fun h_3 => ?_) (fun h_4 => ?_)
  · unfold F_X11_saw_20
    exact ok_some trivial
  · refine ok_b1 (T_X11_isWithin hR.1) (fun v_5 (hv_6 : PB v_5) => ?_)
    refine ok_ite (fun h_7 => ?_) (fun h_8 => ?_)
    · unfold F_X11_saw_20
      exact ok_some trivial
    · refine ok_ite (fun h_9 => ?_) (fun h_10 => ?_)
      · unfold F_X11_saw_36
        refine ok_b1 (T_X8_linesOf hR.1) (fun v_11 _ => ?_)
        exact ok_some trivial
      · unfold F_X11_saw_36
        refine ok_b1 (T_X8_linesOf hR.1) (fun v_13 _ => ?_)
        exact ok_some trivial
theorem T_X11_by {s : mG} {a1 : Int32} {a2 : Int32} (hI : IC s) : ok (F_X11_by s a1 a2) PT := by
  have hR : RC true s s := RC_refl hI
  unfold F_X11_by
  refine ok_b1 (T_X11_isWithin hR.1) (fun v_1 (hv_2 : PB v_1) => ?_)
  refine ok_ite (fun h_3 => ?_) (fun h_4 => ?_)
  · unfold F_X11_by_18
    exact ok_some trivial
  · refine ok_b1 (T_X11_isWithin hR.1) (fun v_5 (hv_6 : PB v_5) => ?_)
    refine ok_ite (fun h_7 => ?_) (fun h_8 => ?_)
    · unfold F_X11_by_18
      exact ok_some trivial
    · refine ok_b1 (T_X8_linesAt hR.1) (fun v_9 _ => ?_)
      exact ok_some trivial
theorem T_X11_tellsOn {s : mG} {a1 : Int32} (hI : IC s) : ok (F_X11_tellsOn s a1) PT := by
  have hR : RC true s s := RC_refl hI
  unfold F_X11_tellsOn
  refine ok_b1 (T_X11_isWithin hR.1) (fun v_1 (hv_2 : PB v_1) => ?_)
  refine ok_ite (fun h_3 => ?_) (fun h_4 => ?_)
  · exact ok_some trivial
  · refine ok_b1 (T_X8_outSeenBy hR.1) (fun v_5 _ => ?_)
    exact ok_some trivial
theorem T_X11_ring {s : mG} {a1 : Int32} (hI : IC s) : ok (F_X11_ring s a1) PT := by
  have hR : RC true s s := RC_refl hI
  unfold F_X11_ring
  refine ok_b1 (T_X2_isGuest isH_1 hR.1) (fun v_1 (hv_2 : PB v_1) => ?_)
  refine ok_ite (fun h_3 => ?_) (fun h_4 => ?_)
  · exact ok_some trivial
  · refine ok_b1 (T_X8_ringOf hR.1) (fun v_5 _ => ?_)
    refine ok_b1 (T_J6_bitCount_0f7a4 hR.1) (fun v_7 _ => ?_)
    exact ok_some trivial
theorem T_X11_swapped {s : mG} {a1 : Int32} (hI : IC s) : ok (F_X11_swapped s a1) PT := by
  have hR : RC true s s := RC_refl hI
  unfold F_X11_swapped
  refine ok_ite (fun h_1 => ?_) (fun h_2 => ?_)
  · refine ok_b1 (T_X8_wrongHooks hR.1) (fun v_3 _ => ?_)
    exact ok_some trivial
  · refine ok_ite (fun h_5 => ?_) (fun h_6 => ?_)
    · refine ok_b1 (T_X8_wrongHooks hR.1) (fun v_7 _ => ?_)
      refine ok_b1 (T_J6_bitCount_0f7a4 hR.1) (fun v_9 _ => ?_)
      refine ok_b1 (T_X8_ringCount hR.1) (fun v_11 _ => ?_)
      exact ok_some trivial
    · refine ok_ite (fun h_13 => ?_) (fun h_14 => ?_)
      · refine ok_b1 (T_X8_ringCount hR.1) (fun v_15 _ => ?_)
        exact ok_some trivial
      · exact ok_some trivial
theorem T_X11_thief {s : mG} (hI : IC s) : ok (F_X11_thief s) PT := by
  have hR : RC true s s := RC_refl hI
  unfold F_X11_thief
  refine ok_b1 (T_X8_longestOutWithKey hR.1) (fun v_1 _ => ?_)
  exact ok_some trivial
theorem T_X11_lookAtTold {s : mG} {a1 : Int32} (hI : IC s) : ok (F_X11_lookAtTold s a1) PT := by
  have hR : RC true s s := RC_refl hI
  unfold F_X11_lookAtTold
  refine ok_ite (fun h_1 => ?_) (fun h_2 => ?_)
  · exact ok_some trivial
  · refine ok_ite (fun h_3 => ?_) (fun h_4 => ?_)
    · exact ok_some trivial
    · refine ok_ite (fun h_5 => ?_) (fun h_6 => ?_)
      · exact ok_some trivial
      · refine ok_ite (fun h_7 => ?_) (fun h_8 => ?_)
        · exact ok_some trivial
        · refine ok_ite (fun h_9 => ?_) (fun h_10 => ?_)
          · exact ok_some trivial
          · refine ok_ite (fun h_11 => ?_) (fun h_12 => ?_)
            · exact ok_some trivial
            · exact ok_some trivial
theorem T_X11_look {s : mG} {a1 : Int32} (hI : IC s) : ok (F_X11_look s a1) PT := by
  have hR : RC true s s := RC_refl hI
  unfold F_X11_look
  refine ok_ite (fun h_1 => ?_) (fun h_2 => ?_)
  · exact ok_some trivial
  · refine ok_ite (fun h_3 => ?_) (fun h_4 => ?_)
    · exact ok_some trivial
    · refine ok_ite (fun h_5 => ?_) (fun h_6 => ?_)
      · refine ok_b1 (T_X2_outSet isH_1 hR.1) (fun v_7 _ => ?_)
        exact ok_some trivial
      · refine ok_ite (fun h_9 => ?_) (fun h_10 => ?_)
        · refine ok_b1 (T_X2_hookSet isH_1 hR.1) (fun v_11 _ => ?_)
          exact ok_some trivial
        · refine ok_ite (fun h_13 => ?_) (fun h_14 => ?_)
          · exact ok_some trivial
          · refine ok_ite (fun h_15 => ?_) (fun h_16 => ?_)
            · exact ok_some trivial
            · refine ok_ite (fun h_17 => ?_) (fun h_18 => ?_)
              · exact ok_some trivial
              · refine ok_ite (fun h_19 => ?_) (fun h_20 => ?_)
                · exact ok_some trivial
                · refine ok_b1 (T_X11_lookAtTold hR.1) (fun v_21 _ => ?_)
                  exact ok_some trivial
theorem T_X11_next {a1 : Int32} {s : mG} (hI : IC s) : ok (F_X11_next a1 s) (fun τ => RC true s τ.2) := by
  have hR : RC true s s := RC_refl hI
  unfold F_X11_next
  refine ok_b1 (T_X2_isGuest isH_1 hR.1) (fun v_1 (hv_2 : PB v_1) => ?_)
  refine ok_ite (fun h_3 => ?_) (fun h_4 => ?_)
  · exact ok_some hR
  · refine ok_b2 (ok_tr2 hR (T_X0_signAt hR.1)) (fun v_5 s_6 (hs_7 : RC true s s_6) => ?_)
    exact ok_some hs_7
theorem T_X11_looksAt {a1 : Int32} {a2 : Int32} {s : mG} (hI : IC s) : ok (F_X11_looksAt a1 a2 s) (fun τ => RC true s τ.2) := by
  have hR : RC true s s := RC_refl hI
  unfold F_X11_looksAt
  refine ok_b1 (T_X2_isGuest isH_1 hR.1) (fun v_1 (hv_2 : PB v_1) => ?_)
  refine ok_ite (fun h_3 => ?_) (fun h_4 => ?_)
  · unfold F_X11_looksAt_27
    exact ok_some hR
  · refine ok_ite (fun h_5 => ?_) (fun h_6 => ?_)
    · unfold F_X11_looksAt_27
      exact ok_some hR
    · refine ok_b2 (ok_tr2 hR (T_X0_signAt hR.1)) (fun v_7 s_8 (hs_9 : RC true s s_8) => ?_)
      exact ok_some hs_9
theorem T_X11_say {a1 : Int32} {a2 : Int32} {a3 : Int32} {s : mG} (hI : IC s) : ok (F_X11_say a1 a2 a3 s) (fun τ => RC true s τ.2) := by
  have hR : RC true s s := RC_refl hI
  unfold F_X11_say
  refine ok_b1 (T_X2_isGuest isH_1 hR.1) (fun v_1 (hv_2 : PB v_1) => ?_)
  refine ok_ite (fun h_3 => ?_) (fun h_4 => ?_)
  · unfold F_X11_say_33
    exact ok_some hR
  · refine ok_b1 (T_X11_isWithin hR.1) (fun v_5 (hv_6 : PB v_5) => ?_)
    refine ok_ite (fun h_7 => ?_) (fun h_8 => ?_)
    · unfold F_X11_say_33
      exact ok_some hR
    · refine ok_b1 (T_X11_isWithin hR.1) (fun v_9 (hv_10 : PB v_9) => ?_)
      refine ok_ite (fun h_11 => ?_) (fun h_12 => ?_)
      · unfold F_X11_say_33
        exact ok_some hR
      · refine ok_b2 (ok_tr3 hR (T_X0_saysIn hR.1)) (fun v_13 s_14 (hs_15 : PB v_13 ∧ RC true s s_14) => ?_)
        refine ok_ite (fun h_16 => ?_) (fun h_17 => ?_)
        · exact ok_some hs_15.2
        · exact ok_some hs_15.2
theorem T_X11_said {a1 : Int32} {s : mG} (hI : IC s) : ok (F_X11_said a1 s) (fun τ => RC true s τ.2) := by
  have hR : RC true s s := RC_refl hI
  unfold F_X11_said
  refine ok_b1 (T_X11_isWithin hR.1) (fun v_1 (hv_2 : PB v_1) => ?_)
  refine ok_ite (fun h_3 => ?_) (fun h_4 => ?_)
  · exact ok_some hR
  · refine ok_ite (fun h_5 => ?_) (fun h_6 => ?_)
    · unfold F_X11_said_23
      refine ok_b2 (ok_tr2 hR (T_X0_saidToAll hR.1)) (fun v_7 s_8 (hs_9 : RC true s s_8) => ?_)
      exact ok_some hs_9
    · unfold F_X11_said_23
      refine ok_b2 (ok_tr2 hR (T_X0_saidToAll hR.1)) (fun v_10 s_11 (hs_12 : RC true s s_11) => ?_)
      exact ok_some hs_12
theorem T_X11_many {a1 : Int32} {s : mG} (hI : IC s) : ok (F_X11_many a1 s) (fun τ => RC true s τ.2) := by
  have hR : RC true s s := RC_refl hI
  unfold F_X11_many
  refine ok_ite (fun h_1 => ?_) (fun h_2 => ?_)
  · refine ok_b2 (ok_tr2 hR (T_X0_sumOfSure hR.1)) (fun v_3 s_4 (hs_5 : RC true s s_4) => ?_)
    exact ok_some hs_5
  · refine ok_ite (fun h_6 => ?_) (fun h_7 => ?_)
    · refine ok_b2 (ok_tr2 hR (T_X0_likeliest hR.1)) (fun v_8 s_9 (hs_10 : RC true s s_9) => ?_)
      exact ok_some hs_10
    · refine ok_ite (fun h_11 => ?_) (fun h_12 => ?_)
      · refine ok_b2 (ok_tr2 hR (T_X0_likeliest hR.1)) (fun v_13 s_14 (hs_15 : RC true s s_14) => ?_)
        exact ok_some hs_15
      · exact ok_some hR
theorem T_X11_span {a1 : Int32} {a2 : Int32} {s : mG} (hI : IC s) : ok (F_X11_span a1 a2 s) (fun τ => RC true s τ.2) := by
  have hR : RC true s s := RC_refl hI
  unfold F_X11_span
  refine ok_b1 (T_X11_isWithin hR.1) (fun v_1 (hv_2 : PB v_1) => ?_)
  refine ok_ite (fun h_3 => ?_) (fun h_4 => ?_)
  · unfold F_X11_span_20
    exact ok_some hR
  · refine ok_b1 (T_X11_isWithin hR.1) (fun v_5 (hv_6 : PB v_5) => ?_)
    refine ok_ite (fun h_7 => ?_) (fun h_8 => ?_)
    · unfold F_X11_span_20
      exact ok_some hR
    · refine ok_ite (fun h_9 => ?_) (fun h_10 => ?_)
      · unfold F_X11_span_37
        refine ok_b2 (ok_tr2 hR (T_X0_spanEdge hR.1)) (fun v_11 s_12 (hs_13 : RC true s s_12) => ?_)
        exact ok_some hs_13
      · unfold F_X11_span_37
        refine ok_b2 (ok_tr2 hR (T_X0_spanEdge hR.1)) (fun v_14 s_15 (hs_16 : RC true s s_15) => ?_)
        exact ok_some hs_16
theorem T_X11_counted {a1 : Int32} {a2 : Int32} {s : mG} (hI : IC s) : ok (F_X11_counted a1 a2 s) (fun τ => RC true s τ.2) := by
  have hR : RC true s s := RC_refl hI
  unfold F_X11_counted
  refine ok_b1 (T_X2_isGuest isH_1 hR.1) (fun v_1 (hv_2 : PB v_1) => ?_)
  refine ok_ite (fun h_3 => ?_) (fun h_4 => ?_)
  · unfold F_X11_counted_21
    exact ok_some hR
  · refine ok_b1 (T_X11_isWithin hR.1) (fun v_5 (hv_6 : PB v_5) => ?_)
    refine ok_ite (fun h_7 => ?_) (fun h_8 => ?_)
    · unfold F_X11_counted_21
      exact ok_some hR
    · refine ok_b2 (ok_tr2 hR (T_X0_amongCounted hR.1)) (fun v_9 s_10 (hs_11 : RC true s s_10) => ?_)
      exact ok_some hs_11
theorem T_X11_empty {a1 : Int32} {s : mG} (hI : IC s) : ok (F_X11_empty a1 s) (fun τ => RC true s τ.2) := by
  have hR : RC true s s := RC_refl hI
  unfold F_X11_empty
  refine ok_b1 (T_X11_isWithin hR.1) (fun v_1 (hv_2 : PB v_1) => ?_)
  refine ok_ite (fun h_3 => ?_) (fun h_4 => ?_)
  · exact ok_some hR
  · refine ok_b2 (ok_tr2 hR (T_X0_emptyChance hR.1)) (fun v_5 s_6 (hs_7 : RC true s s_6) => ?_)
    exact ok_some hs_7
theorem T_X11_pair {a1 : Int32} {s : mG} (hI : IC s) : ok (F_X11_pair a1 s) (fun τ => RC true s τ.2) := by
  have hR : RC true s s := RC_refl hI
  unfold F_X11_pair
  refine ok_b1 (T_X11_isWithin hR.1) (fun v_1 (hv_2 : PB v_1) => ?_)
  refine ok_ite (fun h_3 => ?_) (fun h_4 => ?_)
  · unfold F_X11_pair_23
    exact ok_some hR
  · refine ok_ite (fun h_5 => ?_) (fun h_6 => ?_)
    · refine ok_b2 (ok_tr2 hR (T_X0_bestPair hR.1)) (fun v_7 s_8 (hs_9 : RC true s s_8) => ?_)
      exact ok_some hs_9
    · unfold F_X11_pair_23
      exact ok_some hR
theorem T_X11_lack {a1 : Int32} {s : mG} (hI : IC s) : ok (F_X11_lack a1 s) (fun τ => RC true s τ.2) := by
  have hR : RC true s s := RC_refl hI
  unfold F_X11_lack
  refine ok_ite (fun h_1 => ?_) (fun h_2 => ?_)
  · refine ok_b1 (T_X2_keylessSet isH_1 hR.1) (fun v_3 _ => ?_)
    refine ok_b1 (T_J6_bitCount_0f7a4 hR.1) (fun v_5 _ => ?_)
    exact ok_some hR
  · refine ok_ite (fun h_7 => ?_) (fun h_8 => ?_)
    · refine ok_b2 (ok_tr2 hR (T_X0_keylessOut hR.1)) (fun v_9 s_10 (hs_11 : RC true s s_10) => ?_)
      exact ok_some hs_11
    · refine ok_ite (fun h_12 => ?_) (fun h_13 => ?_)
      · refine ok_b1 (T_X2_keylessSet isH_1 hR.1) (fun v_14 _ => ?_)
        refine ok_b1 (T_X2_outSet isH_1 hR.1) (fun v_16 _ => ?_)
        refine ok_b1 (T_J6_bitCount_0f7a4 hR.1) (fun v_18 _ => ?_)
        exact ok_some hR
      · exact ok_some hR
theorem T_X11_visit {a1 : Int32} {a2 : Int32} {s : mG} (hI : IC s) : ok (F_X11_visit a1 a2 s) (fun τ => RC true s τ.2) := by
  have hR : RC true s s := RC_refl hI
  unfold F_X11_visit
  refine ok_b1 (T_X2_isGuest isH_1 hR.1) (fun v_1 (hv_2 : PB v_1) => ?_)
  refine ok_ite (fun h_3 => ?_) (fun h_4 => ?_)
  · unfold F_X11_visit_20
    exact ok_some hR
  · refine ok_b1 (T_X11_isWithin hR.1) (fun v_5 (hv_6 : PB v_5) => ?_)
    refine ok_ite (fun h_7 => ?_) (fun h_8 => ?_)
    · unfold F_X11_visit_20
      exact ok_some hR
    · refine ok_b2 (ok_tr2 hR (T_X0_sureOf hR.1)) (fun v_9 s_10 (hs_11 : RC true s s_10) => ?_)
      refine ok_ite (fun h_12 => ?_) (fun h_13 => ?_)
      · unfold F_X11_visit_45
        refine ok_b2 (ok_tr2 hs_11 (T_X1_bestVisit hs_11.1)) (fun v_14 s_15 (hs_16 : RC true s s_15) => ?_)
        exact ok_some hs_16
      · unfold F_X11_visit_45
        refine ok_b2 (ok_tr2 hs_11 (T_X1_bestVisit hs_11.1)) (fun v_17 s_18 (hs_19 : RC true s s_18) => ?_)
        exact ok_some hs_19
theorem T_X11_expect {s : mG} (hI : IC s) : ok (F_X11_expect s) (fun τ => RC true s τ.2) := by
  have hR : RC true s s := RC_refl hI
  unfold F_X11_expect
  refine ok_b2 (ok_tr2 hR (T_X1_movesNow hR.1)) (fun v_1 s_2 (hs_3 : RC true s s_2) => ?_)
  exact ok_some hs_3
theorem T_X11_busy {a1 : Int32} {s : mG} (hI : IC s) : ok (F_X11_busy a1 s) (fun τ => RC true s τ.2) := by
  have hR : RC true s s := RC_refl hI
  unfold F_X11_busy
  refine ok_ite (fun h_1 => ?_) (fun h_2 => ?_)
  · refine ok_b2 (ok_tr2 hR (T_X1_busiestClock hR.1)) (fun v_3 s_4 (hs_5 : RC true s s_4) => ?_)
    exact ok_some hs_5
  · refine ok_ite (fun h_6 => ?_) (fun h_7 => ?_)
    · refine ok_b2 (ok_tr2 hR (T_X1_busiestClock hR.1)) (fun v_8 s_9 (hs_10 : RC true s s_9) => ?_)
      refine ok_b2 (ok_tr2 hs_10 (T_X1_movesAt hs_10.1)) (fun v_11 s_12 (hs_13 : RC true s s_12) => ?_)
      exact ok_some hs_13
    · exact ok_some hR
theorem T_X11_tagCost {a1 : Int32} {a2 : Int32} {a3 : Int32} {s : mG} (hI : IC s) : ok (F_X11_tagCost a1 a2 a3 s) (fun τ => RC true s τ.2) := by
  have hR : RC true s s := RC_refl hI
  unfold F_X11_tagCost
  refine ok_b1 (T_X11_isWithin hR.1) (fun v_1 (hv_2 : PB v_1) => ?_)
  refine ok_ite (fun h_3 => ?_) (fun h_4 => ?_)
  · unfold F_X11_tagCost_32
    exact ok_some hR
  · refine ok_b1 (T_X11_isWithin hR.1) (fun v_5 (hv_6 : PB v_5) => ?_)
    refine ok_ite (fun h_7 => ?_) (fun h_8 => ?_)
    · unfold F_X11_tagCost_32
      exact ok_some hR
    · refine ok_b1 (T_X11_isWithin hR.1) (fun v_9 (hv_10 : PB v_9) => ?_)
      refine ok_ite (fun h_11 => ?_) (fun h_12 => ?_)
      · unfold F_X11_tagCost_32
        exact ok_some hR
      · refine ok_b2 (ok_tr2 hR (T_X1_costOfTag hR.1)) (fun v_13 s_14 (hs_15 : RC true s s_14) => ?_)
        exact ok_some hs_15
theorem T_X11_tag {a1 : Int32} {a2 : Int32} {s : mG} (hI : IC s) : ok (F_X11_tag a1 a2 s) (fun τ => RC true s τ.2) := by
  have hR : RC true s s := RC_refl hI
  unfold F_X11_tag
  refine ok_b1 (T_X11_isWithin hR.1) (fun v_1 (hv_2 : PB v_1) => ?_)
  refine ok_ite (fun h_3 => ?_) (fun h_4 => ?_)
  · unfold F_X11_tag_22
    exact ok_some hR
  · refine ok_b1 (T_X11_isWithin hR.1) (fun v_5 (hv_6 : PB v_5) => ?_)
    refine ok_ite (fun h_7 => ?_) (fun h_8 => ?_)
    · unfold F_X11_tag_22
      exact ok_some hR
    · refine ok_b2 (ok_tr2 hR (T_X1_bestTag hR.1)) (fun v_9 s_10 (hs_11 : RC true s s_10) => ?_)
      exact ok_some hs_11
theorem T_X11_stands {a1 : Int32} {a2 : Int32} {s : mG} (hI : IC s) : ok (F_X11_stands a1 a2 s) (fun τ => RC true s τ.2) := by
  have hR : RC true s s := RC_refl hI
  unfold F_X11_stands
  refine ok_b1 (T_X11_isWithin hR.1) (fun v_1 (hv_2 : PB v_1) => ?_)
  refine ok_ite (fun h_3 => ?_) (fun h_4 => ?_)
  · unfold F_X11_stands_26
    exact ok_some hR
  · refine ok_ite (fun h_5 => ?_) (fun h_6 => ?_)
    · unfold F_X11_stands_28
      refine ok_b1 (ok_tr hR (T_X1_plan hR.1)) (fun s_7 (hs_8 : RC true s s_7) => ?_)
      refine ok_ite (fun h_9 => ?_) (fun h_10 => ?_)
      · refine ok_b1 (T_X1_mostSeen hs_8.1) (fun v_11 _ => ?_)
        exact ok_some hs_8
      · refine ok_b1 (T_X1_doorAt hs_8.1) (fun v_13 _ => ?_)
        exact ok_some hs_8
    · refine ok_b1 (T_X11_isWithin hR.1) (fun v_15 (hv_16 : PB v_15) => ?_)
      refine ok_ite (fun h_17 => ?_) (fun h_18 => ?_)
      · unfold F_X11_stands_26
        exact ok_some hR
      · unfold F_X11_stands_28
        refine ok_b1 (ok_tr hR (T_X1_plan hR.1)) (fun s_19 (hs_20 : RC true s s_19) => ?_)
        refine ok_ite (fun h_21 => ?_) (fun h_22 => ?_)
        · refine ok_b1 (T_X1_mostSeen hs_20.1) (fun v_23 _ => ?_)
          exact ok_some hs_20
        · refine ok_b1 (T_X1_doorAt hs_20.1) (fun v_25 _ => ?_)
          exact ok_some hs_20
theorem T_X11_carries {s : mG} (hI : IC s) : ok (F_X11_carries s) (fun τ => RC true s τ.2) := by
  have hR : RC true s s := RC_refl hI
  unfold F_X11_carries
  refine ok_b2 (ok_tr2 hR (T_X1_likeliestToCarry hR.1)) (fun v_1 s_2 (hs_3 : RC true s s_2) => ?_)
  exact ok_some hs_3
theorem T_X11_away {a1 : Int32} {a2 : Int32} {s : mG} (hI : IC s) : ok (F_X11_away a1 a2 s) (fun τ => RC true s τ.2) := by
  have hR : RC true s s := RC_refl hI
  unfold F_X11_away
  refine ok_b1 (T_X2_isGuest isH_1 hR.1) (fun v_1 (hv_2 : PB v_1) => ?_)
  refine ok_ite (fun h_3 => ?_) (fun h_4 => ?_)
  · unfold F_X11_away_32
    exact ok_some hR
  · refine ok_b1 (T_X11_isWithin hR.1) (fun v_5 (hv_6 : PB v_5) => ?_)
    refine ok_ite (fun h_7 => ?_) (fun h_8 => ?_)
    · unfold F_X11_away_32
      exact ok_some hR
    · refine ok_b1 (T_X2_isOut isH_1 hR.1) (fun v_9 (hv_10 : PB v_9) => ?_)
      refine ok_ite (fun h_11 => ?_) (fun h_12 => ?_)
      · unfold F_X11_away_32
        exact ok_some hR
      · refine ok_b2 (ok_tr2 hR (T_X1_stillOut hR.1)) (fun v_13 s_14 (hs_15 : RC true s s_14) => ?_)
        exact ok_some hs_15
theorem T_X11_knocks {a1 : Int32} {s : mG} (hI : IC s) : ok (F_X11_knocks a1 s) (fun τ => RC true s τ.2) := by
  have hR : RC true s s := RC_refl hI
  unfold F_X11_knocks
  refine ok_b2 (ok_tr2 hR (T_X9_roomAt hR.1)) (fun v_1 s_2 (hs_3 : RC true s s_2) => ?_)
  exact ok_some hs_3
theorem T_X11_done {s : mG} {a1 : Int32} (hI : IC s) : ok (F_X11_done s a1) PT := by
  have hR : RC true s s := RC_refl hI
  unfold F_X11_done
  refine ok_b1 (T_X11_isWithin hR.1) (fun v_1 (hv_2 : PB v_1) => ?_)
  refine ok_ite (fun h_3 => ?_) (fun h_4 => ?_)
  · exact ok_some trivial
  · refine ok_b1 (T_X9_bestRooms hR.1) (fun v_5 _ => ?_)
    refine ok_ite (fun h_7 => ?_) (fun h_8 => ?_)
    · refine ok_b1 (T_X9_worthOf hR.1) (fun v_9 _ => ?_)
      exact ok_some trivial
    · exact ok_some trivial
theorem T_X11_fire {a1 : Int32} {a2 : Int32} {s : mG} (hI : IC s) : ok (F_X11_fire a1 a2 s) (fun τ => RC true s τ.2) := by
  have hR : RC true s s := RC_refl hI
  unfold F_X11_fire
  refine ok_b1 (T_X11_isWithin hR.1) (fun v_1 (hv_2 : PB v_1) => ?_)
  refine ok_ite (fun h_3 => ?_) (fun h_4 => ?_)
  · exact ok_some hR
  · refine ok_b1 (ok_tr hR (T_X9_searchFloors hR.1)) (fun s_5 (hs_6 : RC true s s_5) => ?_)
    refine ok_ite (fun h_7 => ?_) (fun h_8 => ?_)
    · extract_lets +onlyGivenNames v_9
      clear_value v_9
      exact ok_some hs_6
    · refine ok_ite (fun h_10 => ?_) (fun h_11 => ?_)
      · exact ok_some hs_6
      · refine ok_ite (fun h_12 => ?_) (fun h_13 => ?_)
        · unfold F_X11_fire_87
          exact ok_some hs_6
        · refine ok_ite (fun h_14 => ?_) (fun h_15 => ?_)
          · unfold F_X11_fire_87
            exact ok_some hs_6
          · refine ok_b1 (T_X11_cell sh87 hs_6.1) (fun v_16 _ => ?_)
            exact ok_some hs_6
end
end
/-! 55.model -/
section
/-! THE REFERENCE: what its calls keep -/
theorem r_add {a b : Int32} {m n : Int} (ha : a.toInt = m) (hb : b.toInt = n) (h1 : -2147483648 ≤ m + n) (h2 : m + n < 2147483648) : (a + b).toInt = m + n := by
  subst ha; subst hb; exact t_add h1 h2
theorem r_sub {a b : Int32} {m n : Int} (ha : a.toInt = m) (hb : b.toInt = n) (h1 : -2147483648 ≤ m - n) (h2 : m - n < 2147483648) : (a - b).toInt = m - n := by
  subst ha; subst hb; exact t_sub h1 h2
theorem r_mul {a b : Int32} {m n : Int} (ha : a.toInt = m) (hb : b.toInt = n) (h1 : -2147483648 ≤ m * n) (h2 : m * n < 2147483648) : (a * b).toInt = m * n := by
  subst ha; subst hb; exact t_mul h1 h2
theorem r_le {a b : Int32} {m n : Int} (ha : a.toInt = m) (hb : b.toInt = n) (h : a ≤ b) : m ≤ n := by
  rw [Int32.le_iff_toInt_le, ha, hb] at h; exact h
theorem r_nle {a b : Int32} {m n : Int} (ha : a.toInt = m) (hb : b.toInt = n) (h : ¬ a ≤ b) : n < m := by
  rw [Int32.le_iff_toInt_le, ha, hb] at h; omega
theorem r_lt {a b : Int32} {m n : Int} (ha : a.toInt = m) (hb : b.toInt = n) (h : a < b) : m < n := by
  rw [Int32.lt_iff_toInt_lt, ha, hb] at h; exact h
theorem r_nlt {a b : Int32} {m n : Int} (ha : a.toInt = m) (hb : b.toInt = n) (h : ¬ a < b) : n ≤ m := by
  rw [Int32.lt_iff_toInt_lt, ha, hb] at h; omega
theorem r_eq {a b : Int32} {m n : Int} (ha : a.toInt = m) (hb : b.toInt = n) (h : a = b) : m = n := by
  subst h; exact ha.symm.trans hb
theorem r_ne {a b : Int32} {m n : Int} (ha : a.toInt = m) (hb : b.toInt = n) (h : ¬ a = b) : m ≠ n := by
  intro q
  subst q
  exact h (Int32.toInt_inj.mp (ha.trans hb.symm))
theorem ix_ok {e : Int32} {m : Int} {n : Nat} (he : e.toInt = m) (h0 : 0 ≤ m) (h1 : m < n) : ¬ (e < 0 ∨ n ≤ e.toNatClampNeg) := by
  rw [t_neg_iff, t_nat, he]
  omega
theorem r_nat {e : Int32} {m : Nat} (he : e.toInt = (m : Int)) : e.toNatClampNeg = m := by
  rw [t_nat, he]; rfl
theorem up_0 {x : Int32} (h0 : 0 ≤ x.toInt) (h : x.toInt < 2147483647) : 0 ≤ (x + ci 1).toInt := by rw [t_up h]; omega
theorem up_le {x : Int32} {n : Int} (h0 : x.toInt < n) (h : n ≤ 2147483647) : (x + ci 1).toInt ≤ n := by rw [t_up (by omega)]; omega
theorem dn_le {x : Int32} {n : Int} (h0 : 0 ≤ x.toInt) (h : x.toInt ≤ n) : (x + ci (-1)).toInt ≤ n := by rw [t_dn (by omega)]; omega
theorem dn_i {x : Int32} (h : 0 ≤ x.toInt) : mDn (x + ci (-1)) < mDn x := by
  unfold mDn; rw [t_dn (by omega)]; omega
/-! the code of a law: how high its pile is -/
def stpv (s v : Int32) (h : Nat) : Option Nat :=
  if s.toInt < 23 then (if 0 ≤ s.toInt ∧ s.toInt < 10 then some (h + 1) else none)
  else if s.toInt = 26 then (if 1 ≤ h ∧ v ≠ 0 then some h else none)
  else if s.toInt = 30 then (if 1 ≤ h then some h else none)
  else if 2 ≤ h then some (h - 1) else none
def stp (c : Nat → Int32) (k h : Nat) : Option Nat := stpv (c (2 * k)) (c (2 * k + 1)) h
def Rc (c : Nat → Int32) : Nat → Nat → Nat → Nat → Prop
  | _, 0, h, h' => h = h'
  | k, n + 1, h, h' => ∃ m, stp c k h = some m ∧ Rc c (k + 1) n m h'
theorem stp_congr {c c' : Nat → Int32} {k h : Nat} (h0 : c' (2 * k) = c (2 * k)) (h1 : c' (2 * k + 1) = c (2 * k + 1)) : stp c' k h = stp c k h := by
  unfold stp; rw [h0, h1]
theorem Rc_congr {c c' : Nat → Int32} : ∀ (n k h h' : Nat), (∀ j, 2 * k ≤ j → j < 2 * (k + n) → c' j = c j) → Rc c k n h h' → Rc c' k n h h' := by
  intro n
  induction n with
  | zero => intro k h h' _ q; exact q
  | succ n ih =>
    intro k h h' hc q
    obtain ⟨m, q1, q2⟩ := q
    exact ⟨m, (stp_congr (hc _ (by omega) (by omega)) (hc _ (by omega) (by omega))).trans q1, ih (k + 1) m h' (fun j h1 h2 => hc j (by omega) (by omega)) q2⟩
theorem Rc_trans {c : Nat → Int32} : ∀ (n k m h h' h2 : Nat), Rc c k n h h' → Rc c (k + n) m h' h2 → Rc c k (n + m) h h2 := by
  intro n
  induction n with
  | zero => intro k m h h' h2 q1 q2; cases (show h = h' from q1); rw [Nat.zero_add]; exact q2
  | succ n ih =>
    intro k m h h' h2 q1 q2
    obtain ⟨i, q1, q3⟩ := q1
    rw [show n + 1 + m = (n + m) + 1 by omega]
    exact ⟨i, q1, ih (k + 1) m i h' h2 q3 (by rw [show k + 1 + n = k + (n + 1) by omega]; exact q2)⟩
theorem stp_le {c : Nat → Int32} {k h m : Nat} (q : stp c k h = some m) : m ≤ h + 1 := by
  unfold stp stpv at q
  split at q
  · split at q
    · cases q; exact Nat.le_refl _
    · cases q
  split at q
  · split at q
    · cases q; omega
    · cases q
  split at q
  · split at q
    · cases q; omega
    · cases q
  split at q
  · cases q; omega
  · cases q
/-! the cells -/
def LawOK (f : Nat → Int32) (k : Nat) : Prop := ∃ a b c : Nat, c ≤ 410 ∧ a ≤ b ∧ b ≤ c ∧ f (985 + k) = cn a ∧ f (1001 + k) = cn b ∧ f (1017 + k) = cn c ∧ Rc (fun j => f (1050 + j)) a (b - a) 0 1 ∧ (b = c ∨ Rc (fun j => f (1050 + j)) b (c - b) 0 1)
def WI (f : Nat → Int32) : Prop :=
  (0 ≤ (f 112).toInt ∧ (f 112).toInt ≤ 12) ∧ (0 ≤ (f 115).toInt ∧ (f 115).toInt ≤ 6) ∧ (0 ≤ (f 116).toInt ∧ (f 116).toInt ≤ 12) ∧ (0 ≤ (f 117).toInt ∧ (f 117).toInt ≤ 16) ∧ (0 ≤ (f 118).toInt ∧ (f 118).toInt ≤ 8) ∧ (0 ≤ (f 1049).toInt ∧ (f 1049).toInt ≤ 8) ∧
  (∀ k, k < 12 → 0 ≤ (f (119 + k)).toInt ∧ (f (119 + k)).toInt ≤ 3) ∧
  (∀ k : Nat, k < 12 → (k : Int) < 2 * (f 115).toInt → 1 ≤ (f (143 + k)).toInt ∧ (f (143 + k)).toInt ≤ 999) ∧
  (∀ k : Nat, k < 8 → (k : Int) < (f 118).toInt → 0 ≤ (f (203 + 4 * k)).toInt ∧ (f (203 + 4 * k)).toInt < 12) ∧
  (∀ k : Nat, k < 8 → (k : Int) < (f 1049).toInt → 0 ≤ (f (1870 + 3 * k)).toInt ∧ (f (1870 + 3 * k)).toInt < 12) ∧
  (∀ k : Nat, k < 16 → (k : Int) < (f 117).toInt → LawOK f k)
def KI (n : Int) (f : Nat → Int32) : Prop :=
  (0 ≤ (f 2).toInt ∧ (f 2).toInt ≤ 150) ∧
  (∀ a : Nat, a < 12 → (a : Int) < n → -1 ≤ (f (15 + a)).toInt ∧ (f (15 + a)).toInt < n) ∧
  (∀ a b : Nat, a < 12 → b < 12 → (a : Int) < n → (b : Int) < n → f (15 + a) = f (15 + b) → f (15 + a) ≠ ci (-1) → a = b)
def IM (s : mG) : Prop :=
  WI (s.1 89) ∧ KI (s.1 89 112).toInt (s.1 89) ∧
  (s.1 88 4 ≠ 0 → WI (s.1 90) ∧ KI (s.1 90 112).toInt (s.1 90)) ∧
  (0 ≤ (s.1 88 3).toInt ∧ (s.1 88 3).toInt ≤ 6) ∧
  (∀ j : Nat, j < 6 → (j : Int) < (s.1 88 3).toInt → KI (s.1 89 112).toInt (fun k => s.1 91 (112 * j + k))) ∧
  (0 ≤ (s.1 88 15).toInt ∧ (s.1 88 15).toInt ≤ 400)
/-- thinking: the house, the image, the past and the tape stay -/
def RT (s s' : mG) : Prop := (∀ j, j < 92 → j ≠ 88 → s'.1 j = s.1 j) ∧ s'.1 88 3 = s.1 88 3 ∧ s'.1 88 4 = s.1 88 4 ∧ s'.1 88 15 = s.1 88 15
def RM (s s' : mG) : Prop := IM s' ∧ RT s s'
theorem IM_RT {s s' : mG} (h : RT s s') (hI : IM s) : IM s' := by
  obtain ⟨h1, h2, h3, h4⟩ := h
  unfold IM
  rw [h1 89 (by decide) (by decide), h1 90 (by decide) (by decide), h1 91 (by decide) (by decide), h2, h3, h4]
  exact hI
theorem RT_refl {s : mG} : RT s s := ⟨fun _ _ _ => rfl, rfl, rfl, rfl⟩
theorem RT_tr {s s' s2 : mG} (h : RT s s') (k : RT s' s2) : RT s s2 := ⟨fun j h1 h2 => (k.1 j h1 h2).trans (h.1 j h1 h2), k.2.1.trans h.2.1, k.2.2.1.trans h.2.2.1, k.2.2.2.trans h.2.2.2⟩
theorem RM_refl {s : mG} (h : IM s) : RM s s := ⟨h, RT_refl⟩
theorem RM_tr {s s' s2 : mG} (h : RM s s') (k : RM s' s2) : RM s s2 := ⟨k.1, RT_tr h.2 k.2⟩
theorem RT_mu {s : mG} {i k : Nat} {v : Int32} (hd : 92 ≤ i ∨ (i = 88 ∧ k ≠ 3 ∧ k ≠ 4 ∧ k ≠ 15)) : RT s (mu s.1 i k v, s.2) :=
  ⟨fun j h1 h2 => mu_row (by omega), mu_cell (by omega), mu_cell (by omega), mu_cell (by omega)⟩
theorem RT_mu1 {s0 s : mG} {i k : Nat} {v : Int32} (h : RT s0 s) (hd : 92 ≤ i ∨ (i = 88 ∧ k ≠ 3 ∧ k ≠ 4 ∧ k ≠ 15)) : RT s0 (mu s.1 i k v, s.2) := RT_tr h (RT_mu hd)
theorem RM_mu {s0 s : mG} {i k : Nat} {v : Int32} (h : RM s0 s) (hd : 92 ≤ i ∨ (i = 88 ∧ k ≠ 3 ∧ k ≠ 4 ∧ k ≠ 15)) : RM s0 (mu s.1 i k v, s.2) :=
  ⟨IM_RT (RT_mu hd) h.1, RT_mu1 h.2 hd⟩
theorem RM_mw {s0 s : mG} {i k : Nat} {v : Int32} (h : RM s0 s) (hd : 92 ≤ i) : RM s0 (mu s.1 i k v, s.2) := RM_mu h (Or.inl hd)
theorem RM_muL {s0 s : mG} {i k : Nat} {v : Int64} (h : RM s0 s) : RM s0 (s.1, muL s.2 i k v) := ⟨h.1, h.2⟩
theorem ok_rm {s0 s : mG} {o : Option mG} (h : RM s0 s) (k : ok o (RM s)) : ok o (RM s0) := ok_mono k fun _ q => RM_tr h q
theorem ok_rm2 {α : Type} {s0 s : mG} {C : α → Prop} {o : Option (α × mG)} (h : RM s0 s) (k : ok o (fun τ => C τ.1 ∧ RM s τ.2)) : ok o (fun τ => C τ.1 ∧ RM s0 τ.2) := ok_mono k fun _ q => ⟨q.1, RM_tr h q.2⟩
/-! what is known of cells -/
theorem im_112 {s : mG} (h : IM s) : 0 ≤ (s.1 89 112).toInt ∧ (s.1 89 112).toInt ≤ 12 := h.1.1
theorem im_115 {s : mG} (h : IM s) : 0 ≤ (s.1 89 115).toInt ∧ (s.1 89 115).toInt ≤ 6 := h.1.2.1
theorem im_116 {s : mG} (h : IM s) : 0 ≤ (s.1 89 116).toInt ∧ (s.1 89 116).toInt ≤ 12 := h.1.2.2.1
theorem im_117 {s : mG} (h : IM s) : 0 ≤ (s.1 89 117).toInt ∧ (s.1 89 117).toInt ≤ 16 := h.1.2.2.2.1
theorem im_118 {s : mG} (h : IM s) : 0 ≤ (s.1 89 118).toInt ∧ (s.1 89 118).toInt ≤ 8 := h.1.2.2.2.2.1
theorem im_1049 {s : mG} (h : IM s) : 0 ≤ (s.1 89 1049).toInt ∧ (s.1 89 1049).toInt ≤ 8 := h.1.2.2.2.2.2.1
theorem im_2 {s : mG} (h : IM s) : 0 ≤ (s.1 89 2).toInt ∧ (s.1 89 2).toInt ≤ 150 := h.2.1.1
theorem im_tape {s : mG} (h : IM s) : 0 ≤ (s.1 88 15).toInt ∧ (s.1 88 15).toInt ≤ 400 := h.2.2.2.2.2
theorem im_back {s : mG} (h : IM s) : 0 ≤ (s.1 88 3).toInt ∧ (s.1 88 3).toInt ≤ 6 := h.2.2.2.1
theorem r_ix {c : Int32} {b : Nat} {x : Int32} (hc : c.toInt = (b : Int)) (h0 : 0 ≤ x.toInt) (h1 : x.toInt < 1000000) (hb : b < 1000000) : (c + x).toNatClampNeg = b + x.toInt.toNat := by
  rw [t_nat, t_add (by omega) (by omega), hc]; omega
theorem im_floor {s : mG} {x : Int32} (h : IM s) (h0 : 0 ≤ x.toInt) (h1 : x.toInt < 12) : 0 ≤ (s.1 89 ((c8 119) + x).toNatClampNeg).toInt ∧ (s.1 89 ((c8 119) + x).toNatClampNeg).toInt ≤ 3 := by
  rw [r_ix (b := 119) (by decide) h0 (by omega) (by decide)]
  exact h.1.2.2.2.2.2.2.1 _ (by omega)
theorem im_key {s : mG} {x : Int32} (h : IM s) (h0 : 0 ≤ x.toInt) (h1 : x.toInt < (s.1 89 112).toInt) : -1 ≤ (s.1 89 ((c8 15) + x).toNatClampNeg).toInt ∧ (s.1 89 ((c8 15) + x).toNatClampNeg).toInt < (s.1 89 112).toInt := by
  have := im_112 h
  rw [r_ix (b := 15) (by decide) h0 (by omega) (by decide)]
  exact h.2.1.2.1 _ (by omega) (by omega)
theorem r_ix2 {c d x : Int32} {b e : Nat} (hc : c.toInt = (b : Int)) (hd : d.toInt = (e : Int)) (h0 : 0 ≤ x.toInt) (h1 : x.toInt < 1000) (hb : b < 1000000) (he : e < 1000) : (c + d * x).toInt = (b : Int) + (e : Int) * x.toInt := by
  have hm : 0 ≤ (e : Int) * x.toInt := Int.mul_nonneg (by omega) h0
  have hm2 : (e : Int) * x.toInt ≤ 1000 * 1000 := Int.mul_le_mul (by omega) (by omega) h0 (by omega)
  rw [t_add (by rw [t_mul (by rw [hd]; omega) (by rw [hd]; omega), hd, hc]; omega) (by rw [t_mul (by rw [hd]; omega) (by rw [hd]; omega), hd, hc]; omega), t_mul (by rw [hd]; omega) (by rw [hd]; omega), hd, hc]
theorem im_sign {s : mG} {x : Int32} (h : IM s) (h0 : 0 ≤ x.toInt) (h1 : x.toInt < (s.1 89 115).toInt) : 1 ≤ (s.1 89 ((c16 143) + ((ci 2) * x)).toNatClampNeg).toInt ∧ (s.1 89 ((c16 143) + ((ci 2) * x)).toNatClampNeg).toInt ≤ 999 := by
  have h2 := im_115 h
  rw [t_nat, r_ix2 (b := 143) (e := 2) (by decide) (by decide) h0 (by omega) (by decide) (by decide)]
  rw [show (((143 : Nat) : Int) + ((2 : Nat) : Int) * x.toInt).toNat = 143 + (2 * x.toInt).toNat by omega]
  exact h.1.2.2.2.2.2.2.2.1 _ (by omega) (by omega)
theorem im_sign2 {s : mG} {x : Int32} (h : IM s) (h0 : 0 ≤ x.toInt) (h1 : x.toInt < (s.1 89 115).toInt) : 1 ≤ (s.1 89 (((c16 143) + ((ci 2) * x)) + (ci 1)).toNatClampNeg).toInt ∧ (s.1 89 (((c16 143) + ((ci 2) * x)) + (ci 1)).toNatClampNeg).toInt ≤ 999 := by
  have h2 := im_115 h
  have e := r_ix2 (c := c16 143) (d := ci 2) (x := x) (b := 143) (e := 2) (by decide) (by decide) h0 (by omega) (by decide) (by decide)
  rw [t_nat, t_add (by rw [e, t_c1]; omega) (by rw [e, t_c1]; omega), e, t_c1]
  rw [show (((143 : Nat) : Int) + ((2 : Nat) : Int) * x.toInt + 1).toNat = 143 + (2 * x.toInt + 1).toNat by omega]
  exact h.1.2.2.2.2.2.2.2.1 _ (by omega) (by omega)
theorem im_room {s : mG} {x : Int32} (h : IM s) (h0 : 0 ≤ x.toInt) (h1 : x.toInt < (s.1 89 118).toInt) : 0 ≤ (s.1 89 (((c16 203) + ((ci 4) * x)) + (ci 0)).toNatClampNeg).toInt ∧ (s.1 89 (((c16 203) + ((ci 4) * x)) + (ci 0)).toNatClampNeg).toInt < 12 := by
  have h2 := im_118 h
  have e := r_ix2 (c := c16 203) (d := ci 4) (x := x) (b := 203) (e := 4) (by decide) (by decide) h0 (by omega) (by decide) (by decide)
  rw [show ci 0 = 0 by decide, Int32.add_zero, t_nat, e]
  rw [show (((203 : Nat) : Int) + ((4 : Nat) : Int) * x.toInt).toNat = 203 + 4 * x.toInt.toNat by omega]
  exact h.1.2.2.2.2.2.2.2.2.1 _ (by omega) (by omega)
theorem im_caller {s : mG} {x : Int32} (h : IM s) (h0 : 0 ≤ x.toInt) (h1 : x.toInt < (s.1 89 1049).toInt) : 0 ≤ (s.1 89 ((c16 1870) + ((ci 3) * x)).toNatClampNeg).toInt ∧ (s.1 89 ((c16 1870) + ((ci 3) * x)).toNatClampNeg).toInt < 12 := by
  have h2 := im_1049 h
  rw [t_nat, r_ix2 (b := 1870) (e := 3) (by decide) (by decide) h0 (by omega) (by decide) (by decide)]
  rw [show (((1870 : Nat) : Int) + ((3 : Nat) : Int) * x.toInt).toNat = 1870 + 3 * x.toInt.toNat by omega]
  exact h.1.2.2.2.2.2.2.2.2.2.1 _ (by omega) (by omega)
theorem im_law {s : mG} {x : Int32} (h : IM s) (h0 : 0 ≤ x.toInt) (h1 : x.toInt < (s.1 89 117).toInt) : LawOK (s.1 89) x.toInt.toNat := by
  have h2 := im_117 h
  exact h.1.2.2.2.2.2.2.2.2.2.2 _ (by omega) (by omega)
end
/-! 57.a -/
section
noncomputable section
def QI (v a b c : Int32) : Prop := PB v ∧ (¬ v = 0 → b.toInt ≤ a.toInt ∧ a.toInt ≤ c.toInt)
def QG (v a w : Int32) : Prop := PB v ∧ (¬ v = 0 → 0 ≤ a.toInt ∧ a.toInt < w.toInt)
theorem F_isIn {s : mG} {a b c : Int32} : F_X12_isIn s a b c = some (wi a b c) := by
  unfold F_X12_isIn wi
  by_cases h1 : a < b
  · rw [if_pos h1, if_pos h1]; rfl
  · rw [if_neg h1, if_neg h1]
    by_cases h2 : c < a
    · rw [if_pos h2, if_pos h2]; rfl
    · rw [if_neg h2, if_neg h2]
theorem wi_f {a b c : Int32} (h : ¬ wi a b c = 0) : b.toInt ≤ a.toInt ∧ a.toInt ≤ c.toInt := by
  unfold wi at h
  by_cases h1 : a < b
  · rw [if_pos h1] at h; exact absurd (by decide) h
  · rw [if_neg h1] at h
    by_cases h2 : c < a
    · rw [if_pos h2] at h; exact absurd (by decide) h
    · exact ⟨t_nlt h1, t_nlt h2⟩
theorem T_X12_isIn {s : mG} {a1 a2 a3 : Int32} (hI : IM s) : ok (F_X12_isIn s a1 a2 a3) (fun v => QI v a1 a2 a3) := ⟨_, F_isIn, wi_b _ _ _, wi_f⟩
theorem isin_f {a b c : Int32} {m n : Int} (hb : b.toInt = m) (hc : c.toInt = n) (h : b.toInt ≤ a.toInt ∧ a.toInt ≤ c.toInt) : m ≤ a.toInt ∧ a.toInt ≤ n := by
  rw [hb, hc] at h; exact h
theorem rm_k (j k : Nat) {s st : mG} (h : RM s st) (hj : j < 92 ∧ j ≠ 88) : (st.1 j k).toInt = (s.1 j k).toInt := by rw [h.2.1 j hj.1 hj.2]
theorem T_X12_lesser {s : mG} {a1 a2 : Int32} {m : Int} (hm : a1.toInt = m) (hI : IM s) : ok (F_X12_lesser s a1 a2) (fun v => v.toInt ≤ m) := by
  unfold F_X12_lesser
  refine ok_ite (fun h => ?_) (fun h => ?_)
  · exact ok_some (r_le rfl hm h)
  · exact ok_some (by omega)
theorem T_X12_greater {s : mG} {a1 a2 : Int32} {m : Int} (hm : a1.toInt = m) (hI : IM s) : ok (F_X12_greater s a1 a2) (fun v => m ≤ v.toInt ∧ (v.toInt = m ∨ v.toInt = a2.toInt)) := by
  unfold F_X12_greater
  refine ok_ite (fun h => ?_) (fun h => ?_)
  · exact ok_some ⟨r_le hm rfl h, Or.inr rfl⟩
  · exact ok_some ⟨by omega, Or.inl hm⟩
theorem T_X12_isGuest {s : mG} {a1 : Int32} (hI : IM s) : ok (F_X12_isGuest s a1) (fun v => QG v a1 (s.1 89 112)) := by
  unfold F_X12_isGuest
  refine ok_b1 (T_X12_isIn hI) (fun v hv => ?_)
  refine ok_pp hv.1 ?_
  refine ok_some ⟨hv.1, fun h => ?_⟩
  have h3 := im_112 hI
  have h2 := isin_f (a := a1) (by decide : (ci 0).toInt = 0) (r_sub rfl (by decide : (ci 1).toInt = 1) (by omega) (by omega)) (hv.2 h)
  omega
theorem T_X12_isSign {s : mG} {a1 : Int32} (hI : IM s) : ok (F_X12_isSign s a1) (fun v => QG v a1 (s.1 89 115)) := by
  unfold F_X12_isSign
  refine ok_b1 (T_X12_isIn hI) (fun v hv => ?_)
  refine ok_pp hv.1 ?_
  refine ok_some ⟨hv.1, fun h => ?_⟩
  have h3 := im_115 hI
  have h2 := isin_f (a := a1) (by decide : (ci 0).toInt = 0) (r_sub rfl (by decide : (ci 1).toInt = 1) (by omega) (by omega)) (hv.2 h)
  omega
theorem T_X12_fault {s : mG} {a1 : Int32} (hI : IM s) : ok (F_X12_fault s a1) (fun (v : Int32) => True) := by
  have hR : RM s s := RM_refl hI
  unfold F_X12_fault
  refine ok_ite (fun h_1 => ?_) (fun h_2 => ?_)
  · have hc_3 := r_eq (rfl : (a1).toInt = _) (by decide : (0 : Int32).toInt = 0) h_1
    exact ok_some trivial
  · have hc_4 := r_ne (rfl : (a1).toInt = _) (by decide : (0 : Int32).toInt = 0) h_2
    refine ok_ite (fun h_5 => ?_) (fun h_6 => ?_)
    · have hc_7 := r_eq (rfl : (a1).toInt = _) (by decide : (ci 1).toInt = 1) h_5
      exact ok_some trivial
    · have hc_8 := r_ne (rfl : (a1).toInt = _) (by decide : (ci 1).toInt = 1) h_6
      exact ok_some trivial
theorem cn_up {x : Int32} {k : Nat} (h : x = cn k) (hk : k < 2147483646) : x + ci 1 = cn (k + 1) := by
  have e : x.toInt = (k : Int) := by rw [h]; exact t_cn (by omega)
  apply Int32.toInt_inj.mp
  rw [t_up (by omega), e, t_cn (by omega)]
  omega
theorem cn_dn {x : Int32} {k : Nat} (h : x = cn (k + 1)) (hk : k < 2147483646) : x + ci (-1) = cn k := by
  have e : x.toInt = (k + 1 : Nat) := by rw [h]; exact t_cn (by omega)
  apply Int32.toInt_inj.mp
  rw [t_dn (by omega), e, t_cn (by omega)]
  omega
theorem r_nat2 {e : Int32} {M : Int} {m : Nat} (he : e.toInt = M) (hM : M = (m : Int)) : e.toNatClampNeg = m := by
  rw [t_nat, he, hM]; rfl
theorem dn_r {x : Int32} {m : Int} (h : x.toInt = m) (h2 : -2147483648 < m) : (x + ci (-1)).toInt = m - 1 := by
  subst h; exact t_dn h2
theorem ct1 {x : Int32} {k : Nat} (h : x.toInt = (k : Int)) (hk : k < 10000) : (((c16 1050) + ((c16 820) * (ci 0))) + ((ci 2) * x)).toInt = 1050 + 2 * (k : Int) :=
  r_add (by decide) (r_mul (by decide) h (by omega) (by omega)) (by omega) (by omega)
theorem ct2 {x : Int32} {k : Nat} (h : x.toInt = (k : Int)) (hk : k < 10000) : ((((c16 1050) + ((c16 820) * (ci 0))) + ((ci 2) * x)) + (ci 1)).toInt = 1050 + 2 * (k : Int) + 1 :=
  r_add (ct1 h hk) (by decide) (by omega) (by omega)
theorem T_X12_both {s : mG} {a1 a2 a3 : Int32} (hI : IM s) : ok (F_X12_both s a1 a2 a3) PT := by
  unfold F_X12_both F_X12_both_101
  repeat' (first | exact ok_some trivial | refine ok_ite (fun _ => ?_) (fun _ => ?_))
theorem T_X12_comesTo {s : mG} {x y : Int32} (h : ∃ a b : Nat, b ≤ 410 ∧ x = cn a ∧ y = cn b ∧ a ≤ b ∧ Rc (fun j => s.1 89 (1050 + j)) a (b - a) 0 1) (hI : IM s) : ok (F_X12_comesTo (ci 0) x y s) (fun τ => True ∧ RM s τ.2) := by
  obtain ⟨a, b, hb, rfl, rfl, hab, hr⟩ := h
  unfold F_X12_comesTo F_X12_comesTo_L6
  refine ok_whl (fun v => ci 0 = v.1 ∧ cn b = v.2.1 ∧ RM s v.2.2.2.2 ∧ ∃ k h : Nat, k ≤ b ∧ a ≤ k ∧ h ≤ k - a ∧ v.2.2.2.1 = cn k ∧ v.2.2.1 = cn h ∧ Rc (fun j => s.1 89 (1050 + j)) k (b - k) h 1) (fun v => mUp v.2.2.2.1) ⟨rfl, rfl, RM_refl hI, a, 0, hab, Nat.le_refl _, Nat.zero_le _, rfl, rfl, hr⟩ (fun v hv => ?_)
  obtain ⟨x1, x3, x4, x5, s1⟩ := v
  obtain ⟨rfl, rfl, rs1, k, h, hk, hak, hh, q1, q2, hrc⟩ := hv
  have hs1 : RM s s1 := rs1
  have e5 : x5 = cn k := q1
  have e4 : x4 = cn h := q2
  have t5 : x5.toInt = (k : Int) := by rw [e5]; exact t_cn (by omega)
  have t4 : x4.toInt = (h : Int) := by rw [e4]; exact t_cn (by omega)
  have tb : (cn b).toInt = (b : Int) := t_cn (by omega)
  have nx : x5 + ci 1 = cn (k + 1) := cn_up e5 (by omega)
  show ok (F_X12_comesTo_B6 (ci 0) (cn b) x4 x5 s1) _
  unfold F_X12_comesTo_B6
  refine ok_ite (fun c => ?_) (fun c => ?_)
  · exact ok_some (lp_inr ⟨trivial, hs1⟩)
  · have hkb := r_nle tb t5 c
    refine ok_nn (ix_ok (ct1 t5 (by omega)) (by omega) (by omega)) ?_
    extract_lets +onlyGivenNames v3
    have h3 : v3 = s1.1 89 (1050 + 2 * k) := congrArg (s1.1 89) (r_nat2 (ct1 t5 (by omega)) (by omega))
    clear_value v3
    refine ok_nn (ix_ok (ct2 t5 (by omega)) (by omega) (by omega)) ?_
    extract_lets +onlyGivenNames v5
    have h5 : v5 = s1.1 89 (1050 + (2 * k + 1)) := congrArg (s1.1 89) (r_nat2 (ct2 t5 (by omega)) (by omega))
    clear_value v5
    obtain ⟨n, hn⟩ : ∃ n, b - k = n + 1 := ⟨b - k - 1, by omega⟩
    rw [hn] at hrc
    obtain ⟨m, hst, hrest⟩ := hrc
    have hn' : b - (k + 1) = n := by omega
    rw [← hn'] at hrest
    have r89 : s1.1 89 = s.1 89 := hs1.2.1 89 (by decide) (by decide)
    have hst : stpv v3 v5 h = some m := by rw [h3, h5, r89]; exact hst
    refine ok_ite (fun c2 => ?_) (fun c2 => ?_)
    · have g := r_le (by decide : (c8 23).toInt = 23) (rfl : v3.toInt = _) c2
      refine ok_ite (fun c3 => ?_) (fun c3 => ?_)
      · have g3 := r_eq (rfl : v3.toInt = _) (by decide : (c8 26).toInt = 26) c3
        have hx : 1 ≤ h ∧ v5 ≠ 0 ∧ m = h := by
          unfold stpv at hst
          rw [if_neg (by omega), if_pos g3] at hst
          split at hst
          · next q => cases hst; exact ⟨q.1, q.2, rfl⟩
          · cases hst
        obtain ⟨hx1, hx2, rfl⟩ := hx
        refine ok_nn (ix_ok (r_sub t4 (by decide : (ci 1).toInt = 1) (by omega) (by omega)) (by omega) (by omega)) ?_
        refine ok_nn hx2 ?_
        refine ok_nn (ix_ok (r_sub t4 (by decide : (ci 1).toInt = 1) (by omega) (by omega)) (by omega) (by omega)) ?_
        extract_lets +onlyGivenNames s11
        have hs11 : RM s s11 := RM_mw hs1 (by decide)
        clear_value s11
        unfold F_X12_comesTo_180
        exact ok_some (lp_inl ⟨rfl, rfl, hs11, k + 1, m, by omega, by omega, by omega, nx, e4, hrest⟩ (up_t (by omega)))
      · have g3 := r_ne (rfl : v3.toInt = _) (by decide : (c8 26).toInt = 26) c3
        refine ok_ite (fun c4 => ?_) (fun c4 => ?_)
        · have g4 := r_eq (rfl : v3.toInt = _) (by decide : (c8 30).toInt = 30) c4
          have hx : 1 ≤ h ∧ m = h := by
            unfold stpv at hst
            rw [if_neg (by omega), if_neg g3, if_pos g4] at hst
            split at hst
            · next q => cases hst; exact ⟨q, rfl⟩
            · cases hst
          obtain ⟨hx1, rfl⟩ := hx
          refine ok_nn (ix_ok (r_sub t4 (by decide : (ci 1).toInt = 1) (by omega) (by omega)) (by omega) (by omega)) ?_
          refine ok_nn (ix_ok (r_sub t4 (by decide : (ci 1).toInt = 1) (by omega) (by omega)) (by omega) (by omega)) ?_
          extract_lets +onlyGivenNames s15
          have hs15 : RM s s15 := RM_mw hs1 (by decide)
          clear_value s15
          unfold F_X12_comesTo_180
          exact ok_some (lp_inl ⟨rfl, rfl, hs15, k + 1, m, by omega, by omega, by omega, nx, e4, hrest⟩ (up_t (by omega)))
        · have g4 := r_ne (rfl : v3.toInt = _) (by decide : (c8 30).toInt = 30) c4
          have hx : 2 ≤ h ∧ m = h - 1 := by
            unfold stpv at hst
            rw [if_neg (by omega), if_neg g3, if_neg g4] at hst
            split at hst
            · next q => cases hst; exact ⟨q, rfl⟩
            · cases hst
          obtain ⟨hx1, rfl⟩ := hx
          have e8 : x4 + ci (-1) = cn (h - 1) := cn_dn (e4.trans (congrArg cn (by omega))) (by omega)
          refine ok_nn (ix_ok (r_sub (dn_r t4 (by omega)) (by decide : (ci 1).toInt = 1) (by omega) (by omega)) (by omega) (by omega)) ?_
          refine ok_nn (ix_ok (dn_r t4 (by omega)) (by omega) (by omega)) ?_
          refine ok_b1 (T_X12_both hs1.1) (fun v19 _ => ?_)
          refine ok_nn (ix_ok (r_sub (dn_r t4 (by omega)) (by decide : (ci 1).toInt = 1) (by omega) (by omega)) (by omega) (by omega)) ?_
          extract_lets +onlyGivenNames s21
          have hs21 : RM s s21 := RM_mw hs1 (by decide)
          clear_value s21
          unfold F_X12_comesTo_180
          exact ok_some (lp_inl ⟨rfl, rfl, hs21, k + 1, h - 1, by omega, by omega, by omega, nx, e8, hrest⟩ (up_t (by omega)))
    · have g := r_nle (by decide : (c8 23).toInt = 23) (rfl : v3.toInt = _) c2
      have hx : (0 ≤ v3.toInt ∧ v3.toInt < 10) ∧ m = h + 1 := by
        unfold stpv at hst
        rw [if_pos g] at hst
        split at hst
        · next q => cases hst; exact ⟨q, rfl⟩
        · cases hst
      obtain ⟨hx1, rfl⟩ := hx
      have e9 : x4 + ci 1 = cn (h + 1) := cn_up e4 (by omega)
      refine ok_ite (fun c3 => ?_) (fun c3 => ?_)
      · unfold F_X12_comesTo_86
        refine ok_nn (ix_ok t4 (by omega) (by omega)) ?_
        extract_lets +onlyGivenNames s24
        have hs24 : RM s s24 := RM_mw hs1 (by decide)
        clear_value s24
        unfold F_X12_comesTo_180
        exact ok_some (lp_inl ⟨rfl, rfl, hs24, k + 1, h + 1, by omega, by omega, by omega, nx, e9, hrest⟩ (up_t (by omega)))
      · refine ok_nn (ix_ok (rfl : v3.toInt = _) (by omega) (by omega)) ?_
        unfold F_X12_comesTo_86
        refine ok_nn (ix_ok t4 (by omega) (by omega)) ?_
        extract_lets +onlyGivenNames s24
        have hs24 : RM s s24 := RM_mw hs1 (by decide)
        clear_value s24
        unfold F_X12_comesTo_180
        exact ok_some (lp_inl ⟨rfl, rfl, hs24, k + 1, h + 1, by omega, by omega, by omega, nx, e9, hrest⟩ (up_t (by omega)))
theorem law_from {s : mG} {x : Int32} (hI : IM s) (h0 : 0 ≤ x.toInt) (h1 : x.toInt < (s.1 89 117).toInt) : ∃ a b : Nat, b ≤ 410 ∧ s.1 89 ((c16 985) + x).toNatClampNeg = cn a ∧ s.1 89 ((c16 1001) + x).toNatClampNeg = cn b ∧ a ≤ b ∧ Rc (fun j => s.1 89 (1050 + j)) a (b - a) 0 1 := by
  have i := im_117 hI
  obtain ⟨a, b, c, hc, hab, hbc, ea, eb, ec, r1, r2⟩ := im_law hI h0 h1
  refine ⟨a, b, by omega, ?_, ?_, hab, r1⟩
  · rw [r_ix (b := 985) (by decide) h0 (by omega) (by decide)]; exact ea
  · rw [r_ix (b := 1001) (by decide) h0 (by omega) (by decide)]; exact eb
theorem T_X12_isSo {a1 : Int32} {s : mG} (h0 : 0 ≤ a1.toInt ∧ a1.toInt < (s.1 89 117).toInt) (hI : IM s) : ok (F_X12_isSo a1 s) (fun τ => PB τ.1 ∧ RM s τ.2) := by
  have i := im_117 hI
  obtain ⟨a, b, c, hc, hab, hbc, ea, eb, ec, r1, r2⟩ := im_law hI h0.1 h0.2
  have e17 : s.1 89 ((c16 1017) + a1).toNatClampNeg = cn c := by rw [r_ix (b := 1017) (by decide) h0.1 (by omega) (by decide)]; exact ec
  have e01 : s.1 89 ((c16 1001) + a1).toNatClampNeg = cn b := by rw [r_ix (b := 1001) (by decide) h0.1 (by omega) (by decide)]; exact eb
  unfold F_X12_isSo
  refine ok_nn (ix_ok (r_add (by decide : (c16 1017).toInt = 1017) rfl (by omega) (by omega)) (by omega) (by omega)) ?_
  refine ok_nn (ix_ok (r_add (by decide : (c16 1001).toInt = 1001) rfl (by omega) (by omega)) (by omega) (by omega)) ?_
  refine ok_ite (fun _ => ?_) (fun q => ?_)
  · unfold F_X12_isSo_52; exact ok_some ⟨pb1, RM_refl hI⟩
  · refine ok_nn (ix_ok (r_add (by decide : (c16 1001).toInt = 1001) rfl (by omega) (by omega)) (by omega) (by omega)) ?_
    refine ok_nn (ix_ok (r_add (by decide : (c16 1017).toInt = 1017) rfl (by omega) (by omega)) (by omega) (by omega)) ?_
    refine ok_b2 (T_X12_comesTo ⟨b, c, hc, e01, e17, hbc, r2.resolve_left (fun w => q (by rw [e17, e01, w]))⟩ hI) (fun v8 s7 (hs : True ∧ RM s s7) => ?_)
    refine ok_ite (fun _ => ?_) (fun _ => ?_)
    · unfold F_X12_isSo_52; exact ok_some ⟨pb1, hs.2⟩
    · exact ok_some ⟨pb0, hs.2⟩
theorem T_X12_isOnBoard {s : mG} {a1 : Int32} (h_a1 : 0 ≤ a1.toInt ∧ a1.toInt < 12) (hI : IM s) : ok (F_X12_isOnBoard s a1) (fun (v : Int32) => PB v) := by
  have hR : RM s s := RM_refl hI
  unfold F_X12_isOnBoard
  refine ok_nn (ix_ok (r_add (by decide : (c8 15).toInt = 15) (rfl : (a1).toInt = _) (by omega) (by omega)) (by omega) (by omega)) ?_
  refine ok_ite (fun h_1 => ?_) (fun h_2 => ?_)
  · exact ok_some pb0
  · exact ok_some pb1
theorem T_X12_without {s : mG} {a1 : Int32} {a2 : Int32} (h_a2 : 0 ≤ a2.toInt ∧ a2.toInt < 12) (hI : IM s) : ok (F_X12_without s a1 a2) (fun (v : Int32) => 0 ≤ v.toInt ∧ v.toInt ≤ 1000) := by
  have hR : RM s s := RM_refl hI
  unfold F_X12_without
  refine ok_ite (fun h_1 => ?_) (fun h_2 => ?_)
  · have hc_3 := r_eq (rfl : (a1).toInt = _) (by decide : (ci 20).toInt = 20) h_1
    exact ok_some ⟨by decide, by decide⟩
  · have hc_4 := r_ne (rfl : (a1).toInt = _) (by decide : (ci 20).toInt = 20) h_2
    refine ok_ite (fun h_5 => ?_) (fun h_6 => ?_)
    · have hc_7 := r_eq (rfl : (a1).toInt = _) (by decide : (ci 21).toInt = 21) h_5
      exact ok_some ⟨by decide, by decide⟩
    · have hc_8 := r_ne (rfl : (a1).toInt = _) (by decide : (ci 21).toInt = 21) h_6
      refine ok_ite (fun h_9 => ?_) (fun h_10 => ?_)
      · have hc_11 := r_eq (rfl : (a1).toInt = _) (by decide : (ci 22).toInt = 22) h_9
        exact ok_some ⟨by decide, by decide⟩
      · have hc_12 := r_ne (rfl : (a1).toInt = _) (by decide : (ci 22).toInt = 22) h_10
        refine ok_ite (fun h_13 => ?_) (fun h_14 => ?_)
        · have hc_15 := r_eq (rfl : (a1).toInt = _) (by decide : (ci 23).toInt = 23) h_13
          exact ok_some ⟨by decide, by decide⟩
        · have hc_16 := r_ne (rfl : (a1).toInt = _) (by decide : (ci 23).toInt = 23) h_14
          refine ok_ite (fun h_17 => ?_) (fun h_18 => ?_)
          · have hc_19 := r_eq (rfl : (a1).toInt = _) (by decide : (ci 24).toInt = 24) h_17
            exact ok_some ⟨by decide, by decide⟩
          · have hc_20 := r_ne (rfl : (a1).toInt = _) (by decide : (ci 24).toInt = 24) h_18
            refine ok_b1 (T_X12_isOnBoard ⟨by omega, by omega⟩ hR.1) (fun v_21 (hv_22 : PB v_21) => ?_)
            refine ok_ite (fun h_23 => ?_) (fun h_24 => ?_)
            · have hc_25 := r_eq (rfl : (v_21).toInt = _) (by decide : (0 : Int32).toInt = 0) h_23
              exact ok_some ⟨by decide, by decide⟩
            · have hc_26 := r_ne (rfl : (v_21).toInt = _) (by decide : (0 : Int32).toInt = 0) h_24
              exact ok_some ⟨by decide, by decide⟩
end
end
/-! 57.b -/
section
noncomputable section
theorem T_X12_saysIn {a1 : Int32} {a2 : Int32} {a3 : Int32} {a4 : Int32} {a5 : Int32} {s : mG} (h_a2 : 0 ≤ a2.toInt ∧ a2.toInt < 12) (hI : IM s) : ok (F_X12_saysIn a1 a2 a3 a4 a5 s) (fun τ => (0 ≤ τ.1.toInt ∧ τ.1.toInt ≤ 1000) ∧ RM s τ.2) := by
  have hR : RM s s := RM_refl hI
  unfold F_X12_saysIn
  extract_lets +onlyGivenNames s_1
  have hs_2 : RM s s_1 := (RM_mw hR (by decide))
  clear_value s_1
  refine ok_nn (ix_ok (r_add (by decide : (c8 119).toInt = 119) (rfl : (a2).toInt = _) (by omega) (by omega)) (by omega) (by omega)) ?_
  extract_lets +onlyGivenNames s_3
  have hs_4 : RM s s_3 := (RM_mw hs_2 (by decide))
  clear_value s_3
  refine ok_nn (ix_ok (r_add (by decide : (c16 131).toInt = 131) (rfl : (a2).toInt = _) (by omega) (by omega)) (by omega) (by omega)) ?_
  extract_lets +onlyGivenNames s_5
  have hs_6 : RM s s_5 := (RM_mw hs_4 (by decide))
  clear_value s_5
  extract_lets +onlyGivenNames s_7
  have hs_8 : RM s s_7 := (RM_mw hs_6 (by decide))
  clear_value s_7
  extract_lets +onlyGivenNames s_9
  have hs_10 : RM s s_9 := (RM_mw hs_8 (by decide))
  clear_value s_9
  extract_lets +onlyGivenNames s_11
  have hs_12 : RM s s_11 := (RM_mw hs_10 (by decide))
  clear_value s_11
  extract_lets +onlyGivenNames s_13
  have hs_14 : RM s s_13 := (RM_mw hs_12 (by decide))
  clear_value s_13
  refine ok_b1 (T_X12_isOnBoard ⟨by omega, by omega⟩ hs_14.1) (fun v_15 (hv_16 : PB v_15) => ?_)
  refine ok_ite (fun h_17 => ?_) (fun h_18 => ?_)
  · have hc_19 := r_eq (rfl : (v_15).toInt = _) (by decide : (0 : Int32).toInt = 0) h_17
    unfold F_X12_saysIn_100
    refine ok_nn (ix_ok (by decide : (c8 8).toInt = 8) (by omega) (by omega)) ?_
    extract_lets +onlyGivenNames s_20
    have hs_21 : RM s s_20 := (RM_mw hs_14 (by decide))
    clear_value s_20
    extract_lets +onlyGivenNames s_22
    have hs_23 : RM s s_22 := (RM_mw hs_21 (by decide))
    clear_value s_22
    unfold F_X12_saysIn_L113
    refine ok_whl (fun v => a1 = v.1 ∧ a2 = v.2.1 ∧ RM s v.2.2.2 ∧ 0 ≤ (v.2.2.1).toInt) (fun v => mUp v.2.2.1) ⟨rfl, rfl, hs_23, (show 0 ≤ (ci 0).toInt by rw [((by decide : (ci 0).toInt = 0) : (ci 0).toInt = 0)]; omega)⟩ (fun v hv => ?_)
    obtain ⟨x_31, x_32, x_33, s_34⟩ := v
    obtain ⟨rfl, rfl, rhs_35, rhn_36⟩ := hv
    have hs_35 : RM s s_34 := rhs_35
    have hn_36 : 0 ≤ x_33.toInt := rhn_36
    clear rhs_35 rhn_36
    show ok (F_X12_saysIn_B113 a1 a2 x_33 s_34) _
    unfold F_X12_saysIn_B113
    refine ok_ite (fun h_37 => ?_) (fun h_38 => ?_)
    · have hk_39 := im_117 hs_35.1
      have hk_40 := rm_k 89 117 hs_35 (by decide)
      have hc_41 := r_le (rfl : (s_34.1 89 117).toInt = _) (rfl : (x_33).toInt = _) h_37
      refine ok_b1 (T_X12_without ⟨by omega, by omega⟩ hs_35.1) (fun v_42 (hv_43 : 0 ≤ v_42.toInt ∧ v_42.toInt ≤ 1000) => ?_)
      have hz_44 : 0 ≤ v_42.toInt ∧ v_42.toInt ≤ 1000 := ⟨by omega, by omega⟩
      exact ok_some (lp_inr (⟨hz_44, hs_35⟩))
    · have hk_45 := im_117 hs_35.1
      have hk_46 := rm_k 89 117 hs_35 (by decide)
      have hc_47 := r_nle (rfl : (s_34.1 89 117).toInt = _) (rfl : (x_33).toInt = _) h_38
      refine ok_nn (ix_ok (r_add (by decide : (c16 1033).toInt = 1033) (rfl : (x_33).toInt = _) (by omega) (by omega)) (by omega) (by omega)) ?_
      refine ok_ite (fun h_48 => ?_) (fun h_49 => ?_)
      · have hk_50 := im_117 hR.1
        refine ok_b2 (ok_rm2 (C := fun (v : Int32) => PB v) hs_35 (T_X12_isSo ⟨by omega, by omega⟩ hs_35.1)) (fun v_51 s_52 (hq : (PB v_51) ∧ RM s s_52) => ?_)
        obtain ⟨hv_54, hs_53⟩ := hq
        refine ok_ite (fun h_55 => ?_) (fun h_56 => ?_)
        · have hc_57 := r_eq (rfl : (v_51).toInt = _) (by decide : (0 : Int32).toInt = 0) h_55
          unfold F_X12_saysIn_187
          exact ok_some (lp_inl ⟨rfl, rfl, hs_53, (up_0 (x := x_33) (by omega) (by omega))⟩ (up_t (x := x_33) (by omega)))
        · have hc_58 := r_ne (rfl : (v_51).toInt = _) (by decide : (0 : Int32).toInt = 0) h_56
          refine ok_nn (ix_ok (r_add (by decide : (c16 985).toInt = 985) (rfl : (x_33).toInt = _) (by omega) (by omega)) (by omega) (by omega)) ?_
          refine ok_nn (ix_ok (r_add (by decide : (c16 1001).toInt = 1001) (rfl : (x_33).toInt = _) (by omega) (by omega)) (by omega) (by omega)) ?_
          have hk_59 := im_117 hs_53.1
          have hk_60 := rm_k 89 117 hs_53 (by decide)
          refine ok_b2 (ok_rm2 (C := fun (v : Int32) => True) hs_53 (T_X12_comesTo (law_from hs_53.1 (by omega) (by omega)) hs_53.1)) (fun v_61 s_62 (hq : (True) ∧ RM s s_62) => ?_)
          obtain ⟨hv_64, hs_63⟩ := hq
          refine ok_b1 (T_X12_lesser (by decide : (c16 1000).toInt = 1000) hs_63.1) (fun v_65 (hv_66 : v_65.toInt ≤ 1000) => ?_)
          refine ok_b1 (T_X12_greater (by decide : (ci 0).toInt = 0) hs_63.1) (fun v_67 (hv_68 : 0 ≤ v_67.toInt ∧ (v_67.toInt = 0 ∨ v_67.toInt = v_65.toInt)) => ?_)
          have hz_69 : 0 ≤ v_67.toInt ∧ v_67.toInt ≤ 1000 := ⟨by omega, by omega⟩
          exact ok_some (lp_inr (⟨hz_69, hs_63⟩))
      · unfold F_X12_saysIn_187
        exact ok_some (lp_inl ⟨rfl, rfl, hs_35, (up_0 (x := x_33) (by omega) (by omega))⟩ (up_t (x := x_33) (by omega)))
  · have hc_70 := r_ne (rfl : (v_15).toInt = _) (by decide : (0 : Int32).toInt = 0) h_18
    unfold F_X12_saysIn_100
    refine ok_nn (ix_ok (by decide : (c8 8).toInt = 8) (by omega) (by omega)) ?_
    extract_lets +onlyGivenNames s_71
    have hs_72 : RM s s_71 := (RM_mw hs_14 (by decide))
    clear_value s_71
    extract_lets +onlyGivenNames s_73
    have hs_74 : RM s s_73 := (RM_mw hs_72 (by decide))
    clear_value s_73
    unfold F_X12_saysIn_L113
    refine ok_whl (fun v => a1 = v.1 ∧ a2 = v.2.1 ∧ RM s v.2.2.2 ∧ 0 ≤ (v.2.2.1).toInt) (fun v => mUp v.2.2.1) ⟨rfl, rfl, hs_74, (show 0 ≤ (ci 0).toInt by rw [((by decide : (ci 0).toInt = 0) : (ci 0).toInt = 0)]; omega)⟩ (fun v hv => ?_)
    obtain ⟨x_75, x_76, x_77, s_78⟩ := v
    obtain ⟨rfl, rfl, rhs_79, rhn_80⟩ := hv
    have hs_79 : RM s s_78 := rhs_79
    have hn_80 : 0 ≤ x_77.toInt := rhn_80
    clear rhs_79 rhn_80
    show ok (F_X12_saysIn_B113 a1 a2 x_77 s_78) _
    unfold F_X12_saysIn_B113
    refine ok_ite (fun h_81 => ?_) (fun h_82 => ?_)
    · have hk_83 := im_117 hs_79.1
      have hk_84 := rm_k 89 117 hs_79 (by decide)
      have hc_85 := r_le (rfl : (s_78.1 89 117).toInt = _) (rfl : (x_77).toInt = _) h_81
      refine ok_b1 (T_X12_without ⟨by omega, by omega⟩ hs_79.1) (fun v_86 (hv_87 : 0 ≤ v_86.toInt ∧ v_86.toInt ≤ 1000) => ?_)
      have hz_88 : 0 ≤ v_86.toInt ∧ v_86.toInt ≤ 1000 := ⟨by omega, by omega⟩
      exact ok_some (lp_inr (⟨hz_88, hs_79⟩))
    · have hk_89 := im_117 hs_79.1
      have hk_90 := rm_k 89 117 hs_79 (by decide)
      have hc_91 := r_nle (rfl : (s_78.1 89 117).toInt = _) (rfl : (x_77).toInt = _) h_82
      refine ok_nn (ix_ok (r_add (by decide : (c16 1033).toInt = 1033) (rfl : (x_77).toInt = _) (by omega) (by omega)) (by omega) (by omega)) ?_
      refine ok_ite (fun h_92 => ?_) (fun h_93 => ?_)
      · have hk_94 := im_117 hR.1
        refine ok_b2 (ok_rm2 (C := fun (v : Int32) => PB v) hs_79 (T_X12_isSo ⟨by omega, by omega⟩ hs_79.1)) (fun v_95 s_96 (hq : (PB v_95) ∧ RM s s_96) => ?_)
        obtain ⟨hv_98, hs_97⟩ := hq
        refine ok_ite (fun h_99 => ?_) (fun h_100 => ?_)
        · have hc_101 := r_eq (rfl : (v_95).toInt = _) (by decide : (0 : Int32).toInt = 0) h_99
          unfold F_X12_saysIn_187
          exact ok_some (lp_inl ⟨rfl, rfl, hs_97, (up_0 (x := x_77) (by omega) (by omega))⟩ (up_t (x := x_77) (by omega)))
        · have hc_102 := r_ne (rfl : (v_95).toInt = _) (by decide : (0 : Int32).toInt = 0) h_100
          refine ok_nn (ix_ok (r_add (by decide : (c16 985).toInt = 985) (rfl : (x_77).toInt = _) (by omega) (by omega)) (by omega) (by omega)) ?_
          refine ok_nn (ix_ok (r_add (by decide : (c16 1001).toInt = 1001) (rfl : (x_77).toInt = _) (by omega) (by omega)) (by omega) (by omega)) ?_
          have hk_103 := im_117 hs_97.1
          have hk_104 := rm_k 89 117 hs_97 (by decide)
          refine ok_b2 (ok_rm2 (C := fun (v : Int32) => True) hs_97 (T_X12_comesTo (law_from hs_97.1 (by omega) (by omega)) hs_97.1)) (fun v_105 s_106 (hq : (True) ∧ RM s s_106) => ?_)
          obtain ⟨hv_108, hs_107⟩ := hq
          refine ok_b1 (T_X12_lesser (by decide : (c16 1000).toInt = 1000) hs_107.1) (fun v_109 (hv_110 : v_109.toInt ≤ 1000) => ?_)
          refine ok_b1 (T_X12_greater (by decide : (ci 0).toInt = 0) hs_107.1) (fun v_111 (hv_112 : 0 ≤ v_111.toInt ∧ (v_111.toInt = 0 ∨ v_111.toInt = v_109.toInt)) => ?_)
          have hz_113 : 0 ≤ v_111.toInt ∧ v_111.toInt ≤ 1000 := ⟨by omega, by omega⟩
          exact ok_some (lp_inr (⟨hz_113, hs_107⟩))
      · unfold F_X12_saysIn_187
        exact ok_some (lp_inl ⟨rfl, rfl, hs_79, (up_0 (x := x_77) (by omega) (by omega))⟩ (up_t (x := x_77) (by omega)))
theorem T_X12_saysNow {a1 : Int32} {a2 : Int32} {s : mG} (h_a2 : 0 ≤ a2.toInt ∧ a2.toInt < 12) (hI : IM s) : ok (F_X12_saysNow a1 a2 s) (fun τ => (0 ≤ τ.1.toInt ∧ τ.1.toInt ≤ 1000) ∧ RM s τ.2) := by
  have hR : RM s s := RM_refl hI
  unfold F_X12_saysNow
  refine ok_nn (ix_ok (r_add (by decide : (c8 27).toInt = 27) (rfl : (a2).toInt = _) (by omega) (by omega)) (by omega) (by omega)) ?_
  have hk_1 := im_112 hR.1
  refine ok_b2 (ok_rm2 (C := fun (v : Int32) => 0 ≤ v.toInt ∧ v.toInt ≤ 1000) hR (T_X12_saysIn ⟨by omega, by omega⟩ hR.1)) (fun v_2 s_3 (hq : (0 ≤ v_2.toInt ∧ v_2.toInt ≤ 1000) ∧ RM s s_3) => ?_)
  obtain ⟨hv_5, hs_4⟩ := hq
  have hz_6 : 0 ≤ v_2.toInt ∧ v_2.toInt ≤ 1000 := ⟨by omega, by omega⟩
  exact ok_some ⟨hz_6, hs_4⟩
theorem T_X12_keyOn {s : mG} {a1 : Int32} (hI : IM s) : ok (F_X12_keyOn s a1) (fun v => v = ci (-1) → ∀ a : Nat, (a : Int) < (s.1 89 112).toInt → s.1 89 (15 + a) ≠ a1) := by
  have i := im_112 hI
  unfold F_X12_keyOn F_X12_keyOn_L2
  refine ok_whl (fun v => a1 = v.1 ∧ 0 ≤ v.2.toInt ∧ ∀ a : Nat, (a : Int) < v.2.toInt → s.1 89 (15 + a) ≠ a1) (fun v => mUp v.2) ⟨rfl, show 0 ≤ (ci 0).toInt by decide, fun a (ha : (a : Int) < (ci 0).toInt) => by rw [show (ci 0).toInt = 0 by decide] at ha; omega⟩ (fun v hv => ?_)
  obtain ⟨x1, x2⟩ := v
  obtain ⟨rfl, r0, rq⟩ := hv
  have h0 : 0 ≤ x2.toInt := r0
  have hq : ∀ a : Nat, (a : Int) < x2.toInt → s.1 89 (15 + a) ≠ a1 := rq
  show ok (F_X12_keyOn_B2 s a1 x2) _
  unfold F_X12_keyOn_B2
  refine ok_ite (fun h => ?_) (fun h => ?_)
  · have h2 := r_le (rfl : (s.1 89 112).toInt = _) (rfl : x2.toInt = _) h
    exact ok_some (lp_inr (fun _ a ha => hq a (by omega)))
  · have h2 := r_nle (rfl : (s.1 89 112).toInt = _) (rfl : x2.toInt = _) h
    refine ok_nn (ix_ok (r_add (by decide : (c8 15).toInt = 15) rfl (by omega) (by omega)) (by omega) (by omega)) ?_
    rw [r_ix (b := 15) (by decide) h0 (by omega) (by decide)]
    refine ok_ite (fun h3 => ?_) (fun h3 => ?_)
    · refine ok_some (lp_inr (fun w => ?_))
      have w2 : x2.toInt = -1 := by rw [show x2 = ci (-1) from w]; decide
      omega
    · have hn : ∀ a : Nat, (a : Int) < (x2 + ci 1).toInt → s.1 89 (15 + a) ≠ a1 := by
        intro a ha
        rw [t_up (by omega)] at ha
        by_cases e : a = x2.toInt.toNat
        · rw [e]; exact h3
        · exact hq a (by omega)
      exact ok_some (lp_inl ⟨rfl, up_0 h0 (by omega), hn⟩ (up_t (by omega)))
theorem T_X12_clerkAt {s : mG} {a1 : Int32} (hI : IM s) : ok (F_X12_clerkAt s a1) (fun (v : Int32) => True) := by
  have hR : RM s s := RM_refl hI
  unfold F_X12_clerkAt
  unfold F_X12_clerkAt_L2
  refine ok_whl (fun v => a1 = v.1 ∧ 0 ≤ (v.2).toInt) (fun v => mUp v.2) ⟨rfl, (show 0 ≤ (ci 0).toInt by rw [((by decide : (ci 0).toInt = 0) : (ci 0).toInt = 0)]; omega)⟩ (fun v hv => ?_)
  obtain ⟨x_2, x_3⟩ := v
  obtain ⟨rfl, rhn_4⟩ := hv
  have hn_4 : 0 ≤ x_3.toInt := rhn_4
  clear rhn_4
  show ok (F_X12_clerkAt_B2 s a1 x_3) _
  unfold F_X12_clerkAt_B2
  refine ok_ite (fun h_5 => ?_) (fun h_6 => ?_)
  · have hk_7 := im_116 hR.1
    have hc_8 := r_le (rfl : (s.1 89 116).toInt = _) (rfl : (x_3).toInt = _) h_5
    exact ok_some (lp_inr (trivial))
  · have hk_9 := im_116 hR.1
    have hc_10 := r_nle (rfl : (s.1 89 116).toInt = _) (rfl : (x_3).toInt = _) h_6
    extract_lets +onlyGivenNames v_11
    have he_12 : v_11.toInt = (155 + (4 * (x_3).toInt)) := (r_add (by decide : (c16 155).toInt = 155) (r_mul (by decide : (ci 4).toInt = 4) (rfl : (x_3).toInt = _) (by omega) (by omega)) (by omega) (by omega))
    clear_value v_11
    refine ok_nn (ix_ok (r_add he_12 (by decide : (ci 3).toInt = 3) (by omega) (by omega)) (by omega) (by omega)) ?_
    refine ok_ite (fun h_13 => ?_) (fun h_14 => ?_)
    · refine ok_nn (ix_ok (r_add he_12 (by decide : (ci 1).toInt = 1) (by omega) (by omega)) (by omega) (by omega)) ?_
      refine ok_nn (ix_ok (r_add he_12 (by decide : (ci 2).toInt = 2) (by omega) (by omega)) (by omega) (by omega)) ?_
      refine ok_ite (fun h_15 => ?_) (fun h_16 => ?_)
      · unfold F_X12_clerkAt_75
        exact ok_some (lp_inl ⟨rfl, (up_0 (x := x_3) (by omega) (by omega))⟩ (up_t (x := x_3) (by omega)))
      · refine ok_nn (ix_ok he_12 (by omega) (by omega)) ?_
        exact ok_some (lp_inr (trivial))
    · unfold F_X12_clerkAt_75
      exact ok_some (lp_inl ⟨rfl, (up_0 (x := x_3) (by omega) (by omega))⟩ (up_t (x := x_3) (by omega)))
theorem l_add {a b : Int64} {m n : Int} (ha : a.toInt = m) (hb : b.toInt = n) (h1 : -9223372036854775808 ≤ m + n) (h2 : m + n < 9223372036854775808) : (a + b).toInt = m + n := by
  subst ha; subst hb
  rw [Int64.toInt_add]; exact Int.bmod_eq_of_le (by omega) (by omega)
theorem l_sub {a b : Int64} {m n : Int} (ha : a.toInt = m) (hb : b.toInt = n) (h1 : -9223372036854775808 ≤ m - n) (h2 : m - n < 9223372036854775808) : (a - b).toInt = m - n := by
  subst ha; subst hb
  rw [Int64.toInt_sub]; exact Int.bmod_eq_of_le (by omega) (by omega)
theorem l_mul {a b : Int64} {m n : Int} (ha : a.toInt = m) (hb : b.toInt = n) (h1 : -9223372036854775808 ≤ m * n) (h2 : m * n < 9223372036854775808) : (a * b).toInt = m * n := by
  subst ha; subst hb
  rw [Int64.toInt_mul]; exact Int.bmod_eq_of_le (by omega) (by omega)
theorem l_div {a b : Int64} {m n : Int} (ha : a.toInt = m) (hb : b.toInt = n) (h0 : 0 ≤ m) (h1 : 0 < n) (h2 : m < 9223372036854775808) : (a / b).toInt = m / n := by
  subst ha; subst hb
  have hd : a.toInt / b.toInt ≤ a.toInt := Int.ediv_le_self _ h0
  have hp : 0 ≤ a.toInt / b.toInt := Int.ediv_nonneg h0 (by omega)
  rw [Int64.toInt_div, Int.tdiv_eq_ediv_of_nonneg h0]
  exact Int.bmod_eq_of_le (by omega) (by omega)
theorem T_X12_byA {s : mG} {a1 a2 a3 : Int64} (h1 : 0 ≤ a1.toInt ∧ a1.toInt ≤ 1000000) (h2 : 1 ≤ a2.toInt ∧ a2.toInt ≤ 999) (h3 : 1 ≤ a3.toInt ∧ a3.toInt ≤ 999) (hI : IM s) : ok (F_X12_byA s a1 a2 a3) (fun v => 0 ≤ v.toInt ∧ v.toInt ≤ 1000000) := by
  have cm : (cl 1000000).toInt = 1000000 := by decide
  have p1 : a1.toInt * 1 ≤ a1.toInt * a2.toInt := Int.mul_le_mul_of_nonneg_left h2.1 h1.1
  have p2 : a1.toInt * a2.toInt ≤ a1.toInt * 999 := Int.mul_le_mul_of_nonneg_left h2.2 h1.1
  have p3 : (1000000 - a1.toInt) * 1 ≤ (1000000 - a1.toInt) * a3.toInt := Int.mul_le_mul_of_nonneg_left h3.1 (by omega)
  have p4 : (1000000 - a1.toInt) * a3.toInt ≤ (1000000 - a1.toInt) * 999 := Int.mul_le_mul_of_nonneg_left h3.2 (by omega)
  have eA := l_mul (rfl : a1.toInt = _) (rfl : a2.toInt = _) (by omega) (by omega)
  have eM := l_sub cm (rfl : a1.toInt = _) (by omega) (by omega)
  have eB := l_mul eM (rfl : a3.toInt = _) (by omega) (by omega)
  generalize a1.toInt * a2.toInt = A at *
  generalize (1000000 - a1.toInt) * a3.toInt = B at *
  have eS := l_add eA eB (by omega) (by omega)
  have eN := l_mul cm eA (by omega) (by omega)
  have eD := l_div eN eS (by omega) (by omega) (by omega)
  unfold F_X12_byA
  refine ok_nn (fun q => ?_) ?_
  · rw [q] at eS
    rw [show (0 : Int64).toInt = 0 by decide] at eS
    omega
  · refine ok_some ?_
    rw [eD]
    exact ⟨Int.ediv_nonneg (by omega) (by omega), Int.ediv_le_of_le_mul (by omega) (by omega)⟩
theorem i64_r {x : Int32} {m n : Int} (h : m ≤ x.toInt ∧ x.toInt ≤ n) : m ≤ x.toInt64.toInt ∧ x.toInt64.toInt ≤ n := by rw [Int32.toInt_toInt64]; exact h
theorem s1000 {x : Int32} (h : 1 ≤ x.toInt ∧ x.toInt ≤ 999) : 1 ≤ ((c16 1000) - x).toInt ∧ ((c16 1000) - x).toInt ≤ 999 := by
  rw [r_sub (by decide : (c16 1000).toInt = 1000) (rfl : x.toInt = _) (by omega) (by omega)]
  omega
theorem say_k {x : Int32} (h : 0 ≤ x.toInt ∧ x.toInt ≤ 1000) : 0 ≤ (((c16 1000) * x).toInt64).toInt ∧ (((c16 1000) * x).toInt64).toInt ≤ 1000000 := by
  refine i64_r ?_
  rw [r_mul (by decide : (c16 1000).toInt = 1000) (rfl : x.toInt = _) (by omega) (by omega)]
  omega
end
end
/-! 57.c -/
section
noncomputable section
theorem T_X12_bySign {s : mG} {a1 : Int64} {a2 a3 : Int32} (h_p : 0 ≤ a1.toInt ∧ a1.toInt ≤ 1000000) (h_a2 : 0 ≤ a2.toInt ∧ a2.toInt < (s.1 89 115).toInt) (hI : IM s) : ok (F_X12_bySign s a1 a2 a3) (fun v => 0 ≤ v.toInt ∧ v.toInt ≤ 1000000) := by
  have i := im_115 hI
  unfold F_X12_bySign
  refine ok_nn (ix_ok (r_add (by decide : (c16 143).toInt = 143) (r_mul (by decide : (ci 2).toInt = 2) (rfl : a2.toInt = _) (by omega) (by omega)) (by omega) (by omega)) (by omega) (by omega)) ?_
  extract_lets +onlyGivenNames v2
  have h2 : 1 ≤ v2.toInt ∧ v2.toInt ≤ 999 := im_sign hI h_a2.1 h_a2.2
  clear_value v2
  refine ok_nn (ix_ok (r_add (r_add (by decide : (c16 143).toInt = 143) (r_mul (by decide : (ci 2).toInt = 2) (rfl : a2.toInt = _) (by omega) (by omega)) (by omega) (by omega)) (by decide : (ci 1).toInt = 1) (by omega) (by omega)) (by omega) (by omega)) ?_
  extract_lets +onlyGivenNames v4
  have h4 : 1 ≤ v4.toInt ∧ v4.toInt ≤ 999 := im_sign2 hI h_a2.1 h_a2.2
  clear_value v4
  refine ok_ite (fun _ => ?_) (fun _ => ?_)
  · refine ok_b1 (T_X12_byA h_p (i64_r h2) (i64_r h4) hI) (fun v hv => ?_)
    exact ok_some hv
  · refine ok_b1 (T_X12_byA h_p (i64_r (s1000 h2)) (i64_r (s1000 h4)) hI) (fun v hv => ?_)
    exact ok_some hv
theorem T_X12_sureOf {a1 : Int32} {s : mG} (h_a1 : 0 ≤ a1.toInt ∧ a1.toInt < 12) (hI : IM s) : ok (F_X12_sureOf a1 s) (fun τ => (0 ≤ τ.1.toInt ∧ τ.1.toInt ≤ 1000000) ∧ RM s τ.2) := by
  have hR : RM s s := RM_refl hI
  unfold F_X12_sureOf
  have hk_1 := im_112 hR.1
  refine ok_b2 (ok_rm2 (C := fun (v : Int32) => 0 ≤ v.toInt ∧ v.toInt ≤ 1000) hR (T_X12_saysNow ⟨by omega, by omega⟩ hR.1)) (fun v_2 s_3 (hq : (0 ≤ v_2.toInt ∧ v_2.toInt ≤ 1000) ∧ RM s s_3) => ?_)
  obtain ⟨hv_5, hs_4⟩ := hq
  extract_lets +onlyGivenNames v_6
  have hw_7 : 0 ≤ v_6.toInt ∧ v_6.toInt ≤ 1000000 := say_k ⟨by omega, by omega⟩
  clear_value v_6
  unfold F_X12_sureOf_L16
  refine ok_whl (fun v => a1 = v.1 ∧ RM s v.2.2.2 ∧ 0 ≤ (v.2.2.1).toInt ∧ (0 ≤ (v.2.1).toInt ∧ (v.2.1).toInt ≤ 1000000)) (fun v => mUp v.2.2.1) ⟨rfl, hs_4, (show 0 ≤ (ci 0).toInt by rw [((by decide : (ci 0).toInt = 0) : (ci 0).toInt = 0)]; omega), (show 0 ≤ (v_6).toInt ∧ (v_6).toInt ≤ 1000000 from ⟨by omega, by omega⟩)⟩ (fun v hv => ?_)
  obtain ⟨x_9, x_10, x_11, s_12⟩ := v
  obtain ⟨rfl, rhs_13, rhn_14, rhn_15⟩ := hv
  have hs_13 : RM s s_12 := rhs_13
  have hn_14 : 0 ≤ x_11.toInt := rhn_14
  have hn_15 : 0 ≤ (x_10).toInt ∧ (x_10).toInt ≤ 1000000 := rhn_15
  clear rhs_13 rhn_14 rhn_15
  show ok (F_X12_sureOf_B16 a1 x_10 x_11 s_12) _
  unfold F_X12_sureOf_B16
  refine ok_ite (fun h_16 => ?_) (fun h_17 => ?_)
  · have hk_18 := im_115 hs_13.1
    have hk_19 := rm_k 89 115 hs_13 (by decide)
    have hc_20 := r_le (rfl : (s_12.1 89 115).toInt = _) (rfl : (x_11).toInt = _) h_16
    have hz_21 : 0 ≤ x_10.toInt ∧ x_10.toInt ≤ 1000000 := ⟨by omega, by omega⟩
    exact ok_some (lp_inr (⟨hz_21, hs_13⟩))
  · have hk_22 := im_115 hs_13.1
    have hk_23 := rm_k 89 115 hs_13 (by decide)
    have hc_24 := r_nle (rfl : (s_12.1 89 115).toInt = _) (rfl : (x_11).toInt = _) h_17
    refine ok_nn (ix_ok (r_add (r_add (by decide : (c8 39).toInt = 39) (r_mul (by decide : (c8 6).toInt = 6) (rfl : (a1).toInt = _) (by omega) (by omega)) (by omega) (by omega)) (rfl : (x_11).toInt = _) (by omega) (by omega)) (by omega) (by omega)) ?_
    refine ok_ite (fun h_25 => ?_) (fun h_26 => ?_)
    · unfold F_X12_sureOf_70
      exact ok_some (lp_inl ⟨rfl, hs_13, (up_0 (x := x_11) (by omega) (by omega)), (show 0 ≤ (x_10).toInt ∧ (x_10).toInt ≤ 1000000 from ⟨by omega, by omega⟩)⟩ (up_t (x := x_11) (by omega)))
    · refine ok_nn (ix_ok (r_add (r_add (by decide : (c8 39).toInt = 39) (r_mul (by decide : (c8 6).toInt = 6) (rfl : (a1).toInt = _) (by omega) (by omega)) (by omega) (by omega)) (rfl : (x_11).toInt = _) (by omega) (by omega)) (by omega) (by omega)) ?_
      have hk_27 := im_115 hR.1
      refine ok_b1 (T_X12_bySign ⟨by omega, by omega⟩ ⟨by omega, by omega⟩ hs_13.1) (fun v_28 (hv_29 : 0 ≤ v_28.toInt ∧ v_28.toInt ≤ 1000000) => ?_)
      unfold F_X12_sureOf_70
      exact ok_some (lp_inl ⟨rfl, hs_13, (up_0 (x := x_11) (by omega) (by omega)), (show 0 ≤ (v_28).toInt ∧ (v_28).toInt ≤ 1000000 from ⟨by omega, by omega⟩)⟩ (up_t (x := x_11) (by omega)))
theorem T_X12_surer {s : mG} {a1 : Int64} (hI : IM s) : ok (F_X12_surer s a1) (fun (v : Int64) => True) := by
  have hR : RM s s := RM_refl hI
  unfold F_X12_surer
  refine ok_ite (fun h_1 => ?_) (fun h_2 => ?_)
  · exact ok_some trivial
  · exact ok_some trivial
theorem T_X12_seeing {s : mG} {a1 : Int64} {a2 : Int32} (h_a2 : 0 ≤ a2.toInt ∧ a2.toInt < 6) (hI : IM s) : ok (F_X12_seeing s a1 a2) (fun (v : Int64) => True) := by
  have hR : RM s s := RM_refl hI
  unfold F_X12_seeing
  refine ok_nn (ix_ok (r_add (by decide : (c16 143).toInt = 143) (r_mul (by decide : (ci 2).toInt = 2) (rfl : (a2).toInt = _) (by omega) (by omega)) (by omega) (by omega)) (by omega) (by omega)) ?_
  refine ok_nn (ix_ok (r_add (r_add (by decide : (c16 143).toInt = 143) (r_mul (by decide : (ci 2).toInt = 2) (rfl : (a2).toInt = _) (by omega) (by omega)) (by omega) (by omega)) (by decide : (ci 1).toInt = 1) (by omega) (by omega)) (by omega) (by omega)) ?_
  exact ok_some trivial
theorem T_X12_worthOf {s : mG} {a1 : Int64} {a2 : Int32} (h_p : 0 ≤ a1.toInt ∧ a1.toInt ≤ 1000000) (h_a2 : 0 ≤ a2.toInt ∧ a2.toInt < (s.1 89 115).toInt) (hI : IM s) : ok (F_X12_worthOf s a1 a2) (fun (v : Int64) => True) := by
  have hR : RM s s := RM_refl hI
  unfold F_X12_worthOf
  have hk_1 := im_115 hR.1
  refine ok_b1 (T_X12_seeing ⟨by omega, by omega⟩ hR.1) (fun v_2 _ => ?_)
  refine ok_b1 (T_X12_bySign ⟨by omega, by omega⟩ ⟨by omega, by omega⟩ hR.1) (fun v_4 (hv_5 : 0 ≤ v_4.toInt ∧ v_4.toInt ≤ 1000000) => ?_)
  refine ok_b1 (T_X12_surer hR.1) (fun v_6 _ => ?_)
  refine ok_b1 (T_X12_bySign ⟨by omega, by omega⟩ ⟨by omega, by omega⟩ hR.1) (fun v_8 (hv_9 : 0 ≤ v_8.toInt ∧ v_8.toInt ≤ 1000000) => ?_)
  refine ok_b1 (T_X12_surer hR.1) (fun v_10 _ => ?_)
  exact ok_some trivial
theorem T_X12_lookedAt {s : mG} {a1 : Int32} (h_a1 : 0 ≤ a1.toInt ∧ a1.toInt < 12) (hI : IM s) : ok (F_X12_lookedAt s a1) (fun (v : Int32) => True) := by
  have hR : RM s s := RM_refl hI
  unfold F_X12_lookedAt
  unfold F_X12_lookedAt_L4
  refine ok_whl (fun v => a1 = v.1 ∧ 0 ≤ (v.2.2).toInt) (fun v => mUp v.2.2) ⟨rfl, (show 0 ≤ (ci 0).toInt by rw [((by decide : (ci 0).toInt = 0) : (ci 0).toInt = 0)]; omega)⟩ (fun v hv => ?_)
  obtain ⟨x_1, x_2, x_3⟩ := v
  obtain ⟨rfl, rhn_4⟩ := hv
  have hn_4 : 0 ≤ x_3.toInt := rhn_4
  clear rhn_4
  show ok (F_X12_lookedAt_B4 s a1 x_2 x_3) _
  unfold F_X12_lookedAt_B4
  refine ok_ite (fun h_5 => ?_) (fun h_6 => ?_)
  · have hk_7 := im_115 hR.1
    have hc_8 := r_le (rfl : (s.1 89 115).toInt = _) (rfl : (x_3).toInt = _) h_5
    exact ok_some (lp_inr (trivial))
  · have hk_9 := im_115 hR.1
    have hc_10 := r_nle (rfl : (s.1 89 115).toInt = _) (rfl : (x_3).toInt = _) h_6
    refine ok_nn (ix_ok (r_add (r_add (by decide : (c8 39).toInt = 39) (r_mul (by decide : (c8 6).toInt = 6) (rfl : (a1).toInt = _) (by omega) (by omega)) (by omega) (by omega)) (rfl : (x_3).toInt = _) (by omega) (by omega)) (by omega) (by omega)) ?_
    refine ok_ite (fun h_11 => ?_) (fun h_12 => ?_)
    · unfold F_X12_lookedAt_41
      exact ok_some (lp_inl ⟨rfl, (up_0 (x := x_3) (by omega) (by omega))⟩ (up_t (x := x_3) (by omega)))
    · unfold F_X12_lookedAt_41
      exact ok_some (lp_inl ⟨rfl, (up_0 (x := x_3) (by omega) (by omega))⟩ (up_t (x := x_3) (by omega)))
theorem T_X12_nextOf {s : mG} {a1 : Int64} {a2 : Int32} (h_p : 0 ≤ a1.toInt ∧ a1.toInt ≤ 1000000) (hI : IM s) : ok (F_X12_nextOf s a1 a2) (fun (v : Int32) => -1 ≤ v.toInt ∧ v.toInt < (s.1 89 115).toInt) := by
  have hR : RM s s := RM_refl hI
  unfold F_X12_nextOf
  unfold F_X12_nextOf_L11
  have hk_3 := im_115 hR.1
  refine ok_whl (fun v => a1 = v.1 ∧ a2 = v.2.1 ∧ 0 ≤ (v.2.2.2.2).toInt ∧ (-1 ≤ (v.2.2.1).toInt ∧ (v.2.2.1).toInt < (s.1 89 115).toInt)) (fun v => mUp v.2.2.2.2) ⟨rfl, rfl, (show 0 ≤ (ci 0).toInt by rw [((by decide : (ci 0).toInt = 0) : (ci 0).toInt = 0)]; omega), (show -1 ≤ (ci (-1)).toInt ∧ (ci (-1)).toInt < (s.1 89 115).toInt by rw [((by decide : (ci (-1)).toInt = (-1)) : (ci (-1)).toInt = (-1))]; exact ⟨by omega, by omega⟩)⟩ (fun v hv => ?_)
  obtain ⟨x_4, x_5, x_6, x_7, x_8⟩ := v
  obtain ⟨rfl, rfl, rhn_9, rhn_10⟩ := hv
  have hn_9 : 0 ≤ x_8.toInt := rhn_9
  have hn_10 : -1 ≤ (x_6).toInt ∧ (x_6).toInt < (s.1 89 115).toInt := rhn_10
  clear rhn_9 rhn_10
  show ok (F_X12_nextOf_B11 s a1 a2 x_6 x_7 x_8) _
  unfold F_X12_nextOf_B11
  refine ok_ite (fun h_11 => ?_) (fun h_12 => ?_)
  · have hc_13 := r_le (rfl : (s.1 89 115).toInt = _) (rfl : (x_8).toInt = _) h_11
    have hz_14 : -1 ≤ x_6.toInt ∧ x_6.toInt < (s.1 89 115).toInt := ⟨by omega, by omega⟩
    exact ok_some (lp_inr (hz_14))
  · have hc_15 := r_nle (rfl : (s.1 89 115).toInt = _) (rfl : (x_8).toInt = _) h_12
    refine ok_ite (fun h_16 => ?_) (fun h_17 => ?_)
    · unfold F_X12_nextOf_62
      exact ok_some (lp_inl ⟨rfl, rfl, (up_0 (x := x_8) (by omega) (by omega)), (show -1 ≤ (x_6).toInt ∧ (x_6).toInt < (s.1 89 115).toInt from ⟨by omega, by omega⟩)⟩ (up_t (x := x_8) (by omega)))
    · refine ok_b1 (T_X12_worthOf ⟨by omega, by omega⟩ ⟨by omega, by omega⟩ hR.1) (fun v_18 _ => ?_)
      refine ok_ite (fun h_20 => ?_) (fun h_21 => ?_)
      · refine ok_b1 (T_X12_worthOf ⟨by omega, by omega⟩ ⟨by omega, by omega⟩ hR.1) (fun v_22 _ => ?_)
        unfold F_X12_nextOf_62
        exact ok_some (lp_inl ⟨rfl, rfl, (up_0 (x := x_8) (by omega) (by omega)), (show -1 ≤ (x_8).toInt ∧ (x_8).toInt < (s.1 89 115).toInt from ⟨by omega, by omega⟩)⟩ (up_t (x := x_8) (by omega)))
      · unfold F_X12_nextOf_62
        exact ok_some (lp_inl ⟨rfl, rfl, (up_0 (x := x_8) (by omega) (by omega)), (show -1 ≤ (x_6).toInt ∧ (x_6).toInt < (s.1 89 115).toInt from ⟨by omega, by omega⟩)⟩ (up_t (x := x_8) (by omega)))
theorem T_X12_next {a1 : Int32} {s : mG} (hI : IM s) : ok (F_X12_next a1 s) (fun τ => (True) ∧ RM s τ.2) := by
  have hR : RM s s := RM_refl hI
  unfold F_X12_next
  refine ok_b1 (T_X12_isGuest hR.1) (fun v_1 (hv_2 : QG v_1 a1 (s.1 89 112)) => ?_)
  refine ok_ite (fun h_3 => ?_) (fun h_4 => ?_)
  · have hc_5 := r_eq (rfl : (v_1).toInt = _) (by decide : (0 : Int32).toInt = 0) h_3
    exact ok_some ⟨trivial, hR⟩
  · have hc_6 := r_ne (rfl : (v_1).toInt = _) (by decide : (0 : Int32).toInt = 0) h_4
    have hk_7 := im_112 hR.1
    have hk_8 := im_115 hR.1
    have hf_9 := hv_2.2 h_4
    have hk_10 := im_1049 hR.1
    have hk_11 := im_118 hR.1
    refine ok_b2 (ok_rm2 (C := fun (v : Int64) => 0 ≤ v.toInt ∧ v.toInt ≤ 1000000) hR (T_X12_sureOf ⟨by omega, by omega⟩ hR.1)) (fun v_12 s_13 (hq : (0 ≤ v_12.toInt ∧ v_12.toInt ≤ 1000000) ∧ RM s s_13) => ?_)
    obtain ⟨hv_15, hs_14⟩ := hq
    have hk_16 := im_112 hs_14.1
    have hk_17 := rm_k 89 112 hs_14 (by decide)
    refine ok_b1 (T_X12_lookedAt ⟨by omega, by omega⟩ hs_14.1) (fun v_18 _ => ?_)
    have hk_20 := im_115 hs_14.1
    have hk_21 := rm_k 89 115 hs_14 (by decide)
    refine ok_b1 (T_X12_nextOf ⟨by omega, by omega⟩ hs_14.1) (fun v_22 (hv_23 : -1 ≤ v_22.toInt ∧ v_22.toInt < (s_13.1 89 115).toInt) => ?_)
    exact ok_some ⟨trivial, hs_14⟩
theorem T_X12_looksAt {a1 : Int32} {a2 : Int32} {s : mG} (hI : IM s) : ok (F_X12_looksAt a1 a2 s) (fun τ => (True) ∧ RM s τ.2) := by
  have hR : RM s s := RM_refl hI
  unfold F_X12_looksAt
  refine ok_b1 (T_X12_isGuest hR.1) (fun v_1 (hv_2 : QG v_1 a1 (s.1 89 112)) => ?_)
  refine ok_ite (fun h_3 => ?_) (fun h_4 => ?_)
  · have hc_5 := r_eq (rfl : (v_1).toInt = _) (by decide : (0 : Int32).toInt = 0) h_3
    exact ok_some ⟨trivial, hR⟩
  · have hc_6 := r_ne (rfl : (v_1).toInt = _) (by decide : (0 : Int32).toInt = 0) h_4
    have hk_7 := im_112 hR.1
    have hk_8 := im_115 hR.1
    have hf_9 := hv_2.2 h_4
    have hk_10 := im_1049 hR.1
    have hk_11 := im_118 hR.1
    refine ok_b2 (ok_rm2 (C := fun (v : Int64) => 0 ≤ v.toInt ∧ v.toInt ≤ 1000000) hR (T_X12_sureOf ⟨by omega, by omega⟩ hR.1)) (fun v_12 s_13 (hq : (0 ≤ v_12.toInt ∧ v_12.toInt ≤ 1000000) ∧ RM s s_13) => ?_)
    obtain ⟨hv_15, hs_14⟩ := hq
    have hk_16 := im_112 hs_14.1
    have hk_17 := rm_k 89 112 hs_14 (by decide)
    refine ok_b1 (T_X12_lookedAt ⟨by omega, by omega⟩ hs_14.1) (fun v_18 _ => ?_)
    have hk_20 := im_115 hs_14.1
    have hk_21 := rm_k 89 115 hs_14 (by decide)
    refine ok_b1 (T_X12_nextOf ⟨by omega, by omega⟩ hs_14.1) (fun v_22 (hv_23 : -1 ≤ v_22.toInt ∧ v_22.toInt < (s_13.1 89 115).toInt) => ?_)
    unfold F_X12_looksAt_L35
    refine ok_whl (fun v => a2 = v.1 ∧ RM s v.2.2.2.2.2 ∧ 0 ≤ (v.2.2.2.2.1).toInt ∧ (0 ≤ (v.2.1).toInt ∧ (v.2.1).toInt ≤ 1000000) ∧ (-1 ≤ (v.2.2.2.1).toInt ∧ (v.2.2.2.1).toInt < (s.1 89 115).toInt)) (fun v => mUp v.2.2.2.2.1) ⟨rfl, hs_14, (show 0 ≤ (ci 0).toInt by rw [((by decide : (ci 0).toInt = 0) : (ci 0).toInt = 0)]; omega), (show 0 ≤ (v_12).toInt ∧ (v_12).toInt ≤ 1000000 from ⟨by omega, by omega⟩), (show -1 ≤ (v_22).toInt ∧ (v_22).toInt < (s.1 89 115).toInt from ⟨by omega, by omega⟩)⟩ (fun v hv => ?_)
    obtain ⟨x_31, x_32, x_33, x_34, x_35, s_36⟩ := v
    obtain ⟨rfl, rhs_37, rhn_38, rhn_39, rhn_40⟩ := hv
    have hs_37 : RM s s_36 := rhs_37
    have hn_38 : 0 ≤ x_35.toInt := rhn_38
    have hn_39 : 0 ≤ (x_32).toInt ∧ (x_32).toInt ≤ 1000000 := rhn_39
    have hn_40 : -1 ≤ (x_34).toInt ∧ (x_34).toInt < (s.1 89 115).toInt := rhn_40
    clear rhs_37 rhn_38 rhn_39 rhn_40
    show ok (F_X12_looksAt_B35 a2 x_32 x_33 x_34 x_35 s_36) _
    unfold F_X12_looksAt_B35
    refine ok_ite (fun h_41 => ?_) (fun h_42 => ?_)
    · have hc_43 := r_le (rfl : (a2).toInt = _) (rfl : (x_35).toInt = _) h_41
      refine ok_b1r ?_
      unfold F_X12_looksAt_98
      refine ok_ite (fun h_44 => ?_) (fun h_45 => ?_)
      · have hc_46 := r_le (by decide : (0 : Int32).toInt = 0) (rfl : (a2).toInt = _) h_44
        exact ok_some ⟨trivial, hs_37⟩
      · have hc_47 := ge_t h_45
        have hc_48 := r_nle (by decide : (0 : Int32).toInt = 0) (rfl : (a2).toInt = _) h_45
        exact ok_some ⟨trivial, hs_37⟩
    · have hc_49 := ge_t h_42
      have hc_50 := r_nle (rfl : (a2).toInt = _) (rfl : (x_35).toInt = _) h_42
      refine ok_ite (fun h_51 => ?_) (fun h_52 => ?_)
      · have hc_53 := r_eq (rfl : (x_34).toInt = _) (by decide : (ci (-1)).toInt = (-1)) h_51
        refine ok_b1r ?_
        unfold F_X12_looksAt_98
        refine ok_ite (fun h_54 => ?_) (fun h_55 => ?_)
        · have hc_56 := r_le (by decide : (0 : Int32).toInt = 0) (rfl : (a2).toInt = _) h_54
          exact ok_some ⟨trivial, hs_37⟩
        · have hc_57 := ge_t h_55
          have hc_58 := r_nle (by decide : (0 : Int32).toInt = 0) (rfl : (a2).toInt = _) h_55
          exact ok_some ⟨trivial, hs_37⟩
      · have hc_59 := r_ne (rfl : (x_34).toInt = _) (by decide : (ci (-1)).toInt = (-1)) h_52
        have hk_60 := im_115 hs_37.1
        have hk_61 := rm_k 89 115 hs_37 (by decide)
        refine ok_b1 (T_X12_seeing ⟨by omega, by omega⟩ hs_37.1) (fun v_62 _ => ?_)
        refine ok_ite (fun h_64 => ?_) (fun h_65 => ?_)
        · unfold F_X12_looksAt_70
          refine ok_b1 (T_X12_bySign ⟨by omega, by omega⟩ ⟨by omega, by omega⟩ hs_37.1) (fun v_66 (hv_67 : 0 ≤ v_66.toInt ∧ v_66.toInt ≤ 1000000) => ?_)
          extract_lets +onlyGivenNames v_68
          clear_value v_68
          refine ok_b1 (T_X12_nextOf ⟨by omega, by omega⟩ hs_37.1) (fun v_69 (hv_70 : -1 ≤ v_69.toInt ∧ v_69.toInt < (s_36.1 89 115).toInt) => ?_)
          exact ok_some (lp_inl ⟨rfl, hs_37, (up_0 (x := x_35) (by omega) (by omega)), (show 0 ≤ (v_66).toInt ∧ (v_66).toInt ≤ 1000000 from ⟨by omega, by omega⟩), (show -1 ≤ (v_69).toInt ∧ (v_69).toInt < (s.1 89 115).toInt from ⟨by omega, by omega⟩)⟩ (up_t (x := x_35) (by omega)))
        · unfold F_X12_looksAt_70
          refine ok_b1 (T_X12_bySign ⟨by omega, by omega⟩ ⟨by omega, by omega⟩ hs_37.1) (fun v_71 (hv_72 : 0 ≤ v_71.toInt ∧ v_71.toInt ≤ 1000000) => ?_)
          extract_lets +onlyGivenNames v_73
          clear_value v_73
          refine ok_b1 (T_X12_nextOf ⟨by omega, by omega⟩ hs_37.1) (fun v_74 (hv_75 : -1 ≤ v_74.toInt ∧ v_74.toInt < (s_36.1 89 115).toInt) => ?_)
          exact ok_some (lp_inl ⟨rfl, hs_37, (up_0 (x := x_35) (by omega) (by omega)), (show 0 ≤ (v_71).toInt ∧ (v_71).toInt ≤ 1000000 from ⟨by omega, by omega⟩), (show -1 ≤ (v_74).toInt ∧ (v_74).toInt < (s.1 89 115).toInt from ⟨by omega, by omega⟩)⟩ (up_t (x := x_35) (by omega)))
end
end
/-! 57.d -/
section
noncomputable section
theorem T_X12_isCost {s : mG} {a1 : Int32} (hI : IM s) : ok (F_X12_isCost s a1) (fun (v : Int32) => PB v) := by
  have hR : RM s s := RM_refl hI
  unfold F_X12_isCost
  refine ok_b1 (T_X12_isIn hR.1) (fun v_1 (hv_2 : QI v_1 a1 (ci 0) (c16 9999)) => ?_)
  refine ok_pp hv_2.1 ?_
  exact ok_some hv_2.1
theorem T_X12_say {a1 : Int32} {a2 : Int32} {a3 : Int32} {s : mG} (hI : IM s) : ok (F_X12_say a1 a2 a3 s) (fun τ => (True) ∧ RM s τ.2) := by
  have hR : RM s s := RM_refl hI
  unfold F_X12_say
  refine ok_b1 (T_X12_isGuest hR.1) (fun v_1 (hv_2 : QG v_1 a1 (s.1 89 112)) => ?_)
  refine ok_ite (fun h_3 => ?_) (fun h_4 => ?_)
  · have hc_5 := r_eq (rfl : (v_1).toInt = _) (by decide : (0 : Int32).toInt = 0) h_3
    unfold F_X12_say_22
    exact ok_some ⟨trivial, hR⟩
  · have hc_6 := r_ne (rfl : (v_1).toInt = _) (by decide : (0 : Int32).toInt = 0) h_4
    have hk_7 := im_112 hR.1
    have hk_8 := im_115 hR.1
    have hf_9 := hv_2.2 h_4
    refine ok_b1 (T_X12_isCost hR.1) (fun v_10 (hv_11 : PB v_10) => ?_)
    refine ok_ite (fun h_12 => ?_) (fun h_13 => ?_)
    · have hc_14 := r_eq (rfl : (v_10).toInt = _) (by decide : (0 : Int32).toInt = 0) h_12
      unfold F_X12_say_22
      exact ok_some ⟨trivial, hR⟩
    · have hc_15 := r_ne (rfl : (v_10).toInt = _) (by decide : (0 : Int32).toInt = 0) h_13
      refine ok_b1 (T_X12_isCost hR.1) (fun v_16 (hv_17 : PB v_16) => ?_)
      refine ok_ite (fun h_18 => ?_) (fun h_19 => ?_)
      · have hc_20 := r_eq (rfl : (v_16).toInt = _) (by decide : (0 : Int32).toInt = 0) h_18
        unfold F_X12_say_22
        exact ok_some ⟨trivial, hR⟩
      · have hc_21 := r_ne (rfl : (v_16).toInt = _) (by decide : (0 : Int32).toInt = 0) h_19
        have hk_22 := im_1049 hR.1
        have hk_23 := im_118 hR.1
        refine ok_b2 (ok_rm2 (C := fun (v : Int64) => 0 ≤ v.toInt ∧ v.toInt ≤ 1000000) hR (T_X12_sureOf ⟨by omega, by omega⟩ hR.1)) (fun v_24 s_25 (hq : (0 ≤ v_24.toInt ∧ v_24.toInt ≤ 1000000) ∧ RM s s_25) => ?_)
        obtain ⟨hv_27, hs_26⟩ := hq
        refine ok_ite (fun h_28 => ?_) (fun h_29 => ?_)
        · exact ok_some ⟨trivial, hs_26⟩
        · exact ok_some ⟨trivial, hs_26⟩
theorem T_X12_said {a1 : Int32} {s : mG} (hI : IM s) : ok (F_X12_said a1 s) (fun τ => (True) ∧ RM s τ.2) := by
  have hR : RM s s := RM_refl hI
  unfold F_X12_said
  refine ok_b1 (T_X12_isIn hR.1) (fun v_1 (hv_2 : QI v_1 a1 (ci 0) (ci 1)) => ?_)
  refine ok_ite (fun h_3 => ?_) (fun h_4 => ?_)
  · have hc_5 := r_eq (rfl : (v_1).toInt = _) (by decide : (0 : Int32).toInt = 0) h_3
    exact ok_some ⟨trivial, hR⟩
  · have hc_6 := r_ne (rfl : (v_1).toInt = _) (by decide : (0 : Int32).toInt = 0) h_4
    have hf_7 := isin_f (a := a1) (by decide : (ci 0).toInt = 0) (by decide : (ci 1).toInt = 1) (hv_2.2 h_4)
    unfold F_X12_said_L18
    refine ok_whl (fun v => a1 = v.1 ∧ RM s v.2.2.2.2 ∧ 0 ≤ (v.2.2.2.1).toInt) (fun v => mUp v.2.2.2.1) ⟨rfl, hR, (show 0 ≤ (ci 0).toInt by rw [((by decide : (ci 0).toInt = 0) : (ci 0).toInt = 0)]; omega)⟩ (fun v hv => ?_)
    obtain ⟨x_23, x_24, x_25, x_26, s_27⟩ := v
    obtain ⟨rfl, rhs_28, rhn_29⟩ := hv
    have hs_28 : RM s s_27 := rhs_28
    have hn_29 : 0 ≤ x_26.toInt := rhn_29
    clear rhs_28 rhn_29
    show ok (F_X12_said_B18 a1 x_24 x_25 x_26 s_27) _
    unfold F_X12_said_B18
    refine ok_ite (fun h_30 => ?_) (fun h_31 => ?_)
    · have hk_32 := im_1049 hs_28.1
      have hk_33 := rm_k 89 1049 hs_28 (by decide)
      have hc_34 := r_le (rfl : (s_27.1 89 1049).toInt = _) (rfl : (x_26).toInt = _) h_30
      refine ok_ite (fun h_35 => ?_) (fun h_36 => ?_)
      · have hc_37 := r_eq (rfl : (a1).toInt = _) (by decide : (0 : Int32).toInt = 0) h_35
        exact ok_some (lp_inr (⟨trivial, hs_28⟩))
      · have hc_38 := r_ne (rfl : (a1).toInt = _) (by decide : (0 : Int32).toInt = 0) h_36
        exact ok_some (lp_inr (⟨trivial, hs_28⟩))
    · have hk_39 := im_1049 hs_28.1
      have hk_40 := rm_k 89 1049 hs_28 (by decide)
      have hc_41 := r_nle (rfl : (s_27.1 89 1049).toInt = _) (rfl : (x_26).toInt = _) h_31
      extract_lets +onlyGivenNames v_42
      have he_43 : v_42.toInt = (1870 + (3 * (x_26).toInt)) := (r_add (by decide : (c16 1870).toInt = 1870) (r_mul (by decide : (ci 3).toInt = 3) (rfl : (x_26).toInt = _) (by omega) (by omega)) (by omega) (by omega))
      have hw_44 : v_42 = ((c16 1870) + ((ci 3) * x_26)) := rfl
      clear_value v_42
      refine ok_nn (ix_ok he_43 (by omega) (by omega)) ?_
      refine ok_nn (ix_ok (r_add he_43 (by decide : (ci 1).toInt = 1) (by omega) (by omega)) (by omega) (by omega)) ?_
      refine ok_nn (ix_ok (r_add he_43 (by decide : (ci 2).toInt = 2) (by omega) (by omega)) (by omega) (by omega)) ?_
      refine ok_b2 (ok_rm2 (C := fun (v : Int32) => True) hs_28 (T_X12_say hs_28.1)) (fun v_45 s_46 (hq : (True) ∧ RM s s_46) => ?_)
      obtain ⟨hv_48, hs_47⟩ := hq
      refine ok_ite (fun h_49 => ?_) (fun h_50 => ?_)
      · have hc_51 := r_eq (rfl : (v_45).toInt = _) (by decide : (ci 1).toInt = 1) h_49
        unfold F_X12_said_79
        refine ok_nn (ix_ok he_43 (by omega) (by omega)) ?_
        have hk_52 := im_112 hs_47.1
        have hk_53 := rm_k 89 112 hs_47 (by decide)
        have hk_54 := im_112 hR.1
        have hk_55 := im_1049 hs_47.1
        have hk_56 := rm_k 89 1049 hs_47 (by decide)
        have hk_57 := im_1049 hR.1
        have hk_58 := im_118 hs_47.1
        have hk_59 := rm_k 89 118 hs_47 (by decide)
        have hk_60 := im_118 hR.1
        refine ok_b2 (ok_rm2 (C := fun (v : Int64) => 0 ≤ v.toInt ∧ v.toInt ≤ 1000000) hs_47 (T_X12_sureOf (by rw [hw_44]; exact im_caller hs_47.1 (by omega) (by omega)) hs_47.1)) (fun v_61 s_62 (hq : (0 ≤ v_61.toInt ∧ v_61.toInt ≤ 1000000) ∧ RM s s_62) => ?_)
        obtain ⟨hv_64, hs_63⟩ := hq
        refine ok_ite (fun h_65 => ?_) (fun h_66 => ?_)
        · have hc_67 := r_eq (by decide : (ci 1).toInt = 1) (by decide : (0 : Int32).toInt = 0) h_65
          unfold F_X12_said_108
          refine ok_ite (fun h_68 => ?_) (fun h_69 => ?_)
          · have hc_70 := r_eq (by decide : (ci 1).toInt = 1) (by decide : (0 : Int32).toInt = 0) h_68
            refine ok_nn (ix_ok (r_add he_43 (by decide : (ci 2).toInt = 2) (by omega) (by omega)) (by omega) (by omega)) ?_
            unfold F_X12_said_149
            extract_lets +onlyGivenNames v_71
            clear_value v_71
            exact ok_some (lp_inl ⟨rfl, hs_63, (up_0 (x := x_26) (by omega) (by omega))⟩ (up_t (x := x_26) (by omega)))
          · have hc_72 := r_ne (by decide : (ci 1).toInt = 1) (by decide : (0 : Int32).toInt = 0) h_69
            refine ok_nn (ix_ok (r_add he_43 (by decide : (ci 1).toInt = 1) (by omega) (by omega)) (by omega) (by omega)) ?_
            unfold F_X12_said_149
            extract_lets +onlyGivenNames v_73
            clear_value v_73
            exact ok_some (lp_inl ⟨rfl, hs_63, (up_0 (x := x_26) (by omega) (by omega))⟩ (up_t (x := x_26) (by omega)))
        · have hc_74 := r_ne (by decide : (ci 1).toInt = 1) (by decide : (0 : Int32).toInt = 0) h_66
          unfold F_X12_said_108
          refine ok_ite (fun h_75 => ?_) (fun h_76 => ?_)
          · have hc_77 := r_eq (by decide : (ci 1).toInt = 1) (by decide : (0 : Int32).toInt = 0) h_75
            refine ok_nn (ix_ok (r_add he_43 (by decide : (ci 2).toInt = 2) (by omega) (by omega)) (by omega) (by omega)) ?_
            unfold F_X12_said_149
            extract_lets +onlyGivenNames v_78
            clear_value v_78
            exact ok_some (lp_inl ⟨rfl, hs_63, (up_0 (x := x_26) (by omega) (by omega))⟩ (up_t (x := x_26) (by omega)))
          · have hc_79 := r_ne (by decide : (ci 1).toInt = 1) (by decide : (0 : Int32).toInt = 0) h_76
            refine ok_nn (ix_ok (r_add he_43 (by decide : (ci 1).toInt = 1) (by omega) (by omega)) (by omega) (by omega)) ?_
            unfold F_X12_said_149
            extract_lets +onlyGivenNames v_80
            clear_value v_80
            exact ok_some (lp_inl ⟨rfl, hs_63, (up_0 (x := x_26) (by omega) (by omega))⟩ (up_t (x := x_26) (by omega)))
      · have hc_81 := r_ne (rfl : (v_45).toInt = _) (by decide : (ci 1).toInt = 1) h_50
        unfold F_X12_said_79
        refine ok_nn (ix_ok he_43 (by omega) (by omega)) ?_
        have hk_82 := im_112 hs_47.1
        have hk_83 := rm_k 89 112 hs_47 (by decide)
        have hk_84 := im_112 hR.1
        have hk_85 := im_1049 hs_47.1
        have hk_86 := rm_k 89 1049 hs_47 (by decide)
        have hk_87 := im_1049 hR.1
        have hk_88 := im_118 hs_47.1
        have hk_89 := rm_k 89 118 hs_47 (by decide)
        have hk_90 := im_118 hR.1
        refine ok_b2 (ok_rm2 (C := fun (v : Int64) => 0 ≤ v.toInt ∧ v.toInt ≤ 1000000) hs_47 (T_X12_sureOf (by rw [hw_44]; exact im_caller hs_47.1 (by omega) (by omega)) hs_47.1)) (fun v_91 s_92 (hq : (0 ≤ v_91.toInt ∧ v_91.toInt ≤ 1000000) ∧ RM s s_92) => ?_)
        obtain ⟨hv_94, hs_93⟩ := hq
        refine ok_ite (fun h_95 => ?_) (fun h_96 => ?_)
        · have hc_97 := r_eq (by decide : (ci 0).toInt = 0) (by decide : (0 : Int32).toInt = 0) h_95
          unfold F_X12_said_108
          refine ok_ite (fun h_98 => ?_) (fun h_99 => ?_)
          · have hc_100 := r_eq (by decide : (ci 0).toInt = 0) (by decide : (0 : Int32).toInt = 0) h_98
            refine ok_nn (ix_ok (r_add he_43 (by decide : (ci 2).toInt = 2) (by omega) (by omega)) (by omega) (by omega)) ?_
            unfold F_X12_said_149
            extract_lets +onlyGivenNames v_101
            clear_value v_101
            exact ok_some (lp_inl ⟨rfl, hs_93, (up_0 (x := x_26) (by omega) (by omega))⟩ (up_t (x := x_26) (by omega)))
          · have hc_102 := r_ne (by decide : (ci 0).toInt = 0) (by decide : (0 : Int32).toInt = 0) h_99
            refine ok_nn (ix_ok (r_add he_43 (by decide : (ci 1).toInt = 1) (by omega) (by omega)) (by omega) (by omega)) ?_
            unfold F_X12_said_149
            extract_lets +onlyGivenNames v_103
            clear_value v_103
            exact ok_some (lp_inl ⟨rfl, hs_93, (up_0 (x := x_26) (by omega) (by omega))⟩ (up_t (x := x_26) (by omega)))
        · have hc_104 := r_ne (by decide : (ci 0).toInt = 0) (by decide : (0 : Int32).toInt = 0) h_96
          unfold F_X12_said_108
          refine ok_ite (fun h_105 => ?_) (fun h_106 => ?_)
          · have hc_107 := r_eq (by decide : (ci 0).toInt = 0) (by decide : (0 : Int32).toInt = 0) h_105
            refine ok_nn (ix_ok (r_add he_43 (by decide : (ci 2).toInt = 2) (by omega) (by omega)) (by omega) (by omega)) ?_
            unfold F_X12_said_149
            extract_lets +onlyGivenNames v_108
            clear_value v_108
            exact ok_some (lp_inl ⟨rfl, hs_93, (up_0 (x := x_26) (by omega) (by omega))⟩ (up_t (x := x_26) (by omega)))
          · have hc_109 := r_ne (by decide : (ci 0).toInt = 0) (by decide : (0 : Int32).toInt = 0) h_106
            refine ok_nn (ix_ok (r_add he_43 (by decide : (ci 1).toInt = 1) (by omega) (by omega)) (by omega) (by omega)) ?_
            unfold F_X12_said_149
            extract_lets +onlyGivenNames v_110
            clear_value v_110
            exact ok_some (lp_inl ⟨rfl, hs_93, (up_0 (x := x_26) (by omega) (by omega))⟩ (up_t (x := x_26) (by omega)))
theorem T_X12_pair {a1 : Int32} {s : mG} (hI : IM s) : ok (F_X12_pair a1 s) (fun τ => (True) ∧ RM s τ.2) := by
  have hR : RM s s := RM_refl hI
  unfold F_X12_pair
  refine ok_b1 (T_X12_isIn hR.1) (fun v_1 (hv_2 : QI v_1 a1 (ci 0) (ci 2)) => ?_)
  refine ok_ite (fun h_3 => ?_) (fun h_4 => ?_)
  · have hc_5 := r_eq (rfl : (v_1).toInt = _) (by decide : (0 : Int32).toInt = 0) h_3
    unfold F_X12_pair_20
    exact ok_some ⟨trivial, hR⟩
  · have hc_6 := r_ne (rfl : (v_1).toInt = _) (by decide : (0 : Int32).toInt = 0) h_4
    have hf_7 := isin_f (a := a1) (by decide : (ci 0).toInt = 0) (by decide : (ci 2).toInt = 2) (hv_2.2 h_4)
    refine ok_ite (fun h_8 => ?_) (fun h_9 => ?_)
    · have hk_10 := im_112 hR.1
      have hc_11 := r_le (by decide : (ci 2).toInt = 2) (rfl : (s.1 89 112).toInt = _) h_8
      unfold F_X12_pair_L35
      refine ok_whl (fun v => a1 = v.1 ∧ RM s v.2.2.2.2.2 ∧ 0 ≤ (v.2.2.2.2.1).toInt) (fun v => mUp v.2.2.2.2.1) ⟨rfl, hR, (show 0 ≤ (ci 0).toInt by rw [((by decide : (ci 0).toInt = 0) : (ci 0).toInt = 0)]; omega)⟩ (fun v hv => ?_)
      obtain ⟨x_27, x_28, x_29, x_30, x_31, s_32⟩ := v
      obtain ⟨rfl, rhs_33, rhn_34⟩ := hv
      have hs_33 : RM s s_32 := rhs_33
      have hn_34 : 0 ≤ x_31.toInt := rhn_34
      clear rhs_33 rhn_34
      show ok (F_X12_pair_B35 a1 x_28 x_29 x_30 x_31 s_32) _
      unfold F_X12_pair_B35
      refine ok_ite (fun h_35 => ?_) (fun h_36 => ?_)
      · have hk_37 := im_112 hs_33.1
        have hk_38 := rm_k 89 112 hs_33 (by decide)
        have hc_39 := r_le (rfl : (s_32.1 89 112).toInt = _) (rfl : (x_31).toInt = _) h_35
        refine ok_ite (fun h_40 => ?_) (fun h_41 => ?_)
        · have hc_42 := r_eq (rfl : (a1).toInt = _) (by decide : (0 : Int32).toInt = 0) h_40
          exact ok_some (lp_inr (⟨trivial, hs_33⟩))
        · have hc_43 := r_ne (rfl : (a1).toInt = _) (by decide : (0 : Int32).toInt = 0) h_41
          refine ok_ite (fun h_44 => ?_) (fun h_45 => ?_)
          · have hc_46 := r_eq (rfl : (a1).toInt = _) (by decide : (ci 1).toInt = 1) h_44
            exact ok_some (lp_inr (⟨trivial, hs_33⟩))
          · have hc_47 := r_ne (rfl : (a1).toInt = _) (by decide : (ci 1).toInt = 1) h_45
            exact ok_some (lp_inr (⟨trivial, hs_33⟩))
      · have hk_48 := im_112 hs_33.1
        have hk_49 := rm_k 89 112 hs_33 (by decide)
        have hc_50 := r_nle (rfl : (s_32.1 89 112).toInt = _) (rfl : (x_31).toInt = _) h_36
        unfold F_X12_pair_L53
        refine ok_whl (fun v => a1 = v.1 ∧ x_31 = v.2.2.2.2.1 ∧ RM s v.2.2.2.2.2.2 ∧ 0 ≤ (v.2.2.2.2.2.1).toInt) (fun v => mUp v.2.2.2.2.2.1) ⟨rfl, rfl, hs_33, (show 0 ≤ (x_31 + (ci 1)).toInt by rw [((r_add (rfl : (x_31).toInt = _) (by decide : (ci 1).toInt = 1) (by omega) (by omega)) : (x_31 + (ci 1)).toInt = ((x_31).toInt + 1))]; omega)⟩ (fun v hv => ?_)
        obtain ⟨x_51, x_52, x_53, x_54, x_55, x_56, s_57⟩ := v
        obtain ⟨rfl, rfl, rhs_58, rhn_59⟩ := hv
        have hs_58 : RM s s_57 := rhs_58
        have hn_59 : 0 ≤ x_56.toInt := rhn_59
        clear rhs_58 rhn_59
        show ok (F_X12_pair_B53 a1 x_52 x_53 x_54 x_31 x_56 s_57) _
        unfold F_X12_pair_B53
        refine ok_ite (fun h_60 => ?_) (fun h_61 => ?_)
        · have hk_62 := im_112 hs_58.1
          have hk_63 := rm_k 89 112 hs_58 (by decide)
          have hc_64 := r_le (rfl : (s_57.1 89 112).toInt = _) (rfl : (x_56).toInt = _) h_60
          exact ok_some (lp_inr (lp_inl ⟨rfl, hs_58, (up_0 (x := x_31) (by omega) (by omega))⟩ (up_t (x := x_31) (by omega))))
        · have hk_65 := im_112 hs_58.1
          have hk_66 := rm_k 89 112 hs_58 (by decide)
          have hc_67 := r_nle (rfl : (s_57.1 89 112).toInt = _) (rfl : (x_56).toInt = _) h_61
          have hk_68 := im_1049 hs_58.1
          have hk_69 := rm_k 89 1049 hs_58 (by decide)
          have hk_70 := im_1049 hR.1
          have hk_71 := im_118 hs_58.1
          have hk_72 := rm_k 89 118 hs_58 (by decide)
          have hk_73 := im_118 hR.1
          refine ok_b2 (ok_rm2 (C := fun (v : Int64) => 0 ≤ v.toInt ∧ v.toInt ≤ 1000000) hs_58 (T_X12_sureOf ⟨by omega, by omega⟩ hs_58.1)) (fun v_74 s_75 (hq : (0 ≤ v_74.toInt ∧ v_74.toInt ≤ 1000000) ∧ RM s s_75) => ?_)
          obtain ⟨hv_77, hs_76⟩ := hq
          have hk_78 := im_112 hs_76.1
          have hk_79 := rm_k 89 112 hs_76 (by decide)
          have hk_80 := im_1049 hs_76.1
          have hk_81 := rm_k 89 1049 hs_76 (by decide)
          have hk_82 := im_118 hs_76.1
          have hk_83 := rm_k 89 118 hs_76 (by decide)
          refine ok_b2 (ok_rm2 (C := fun (v : Int64) => 0 ≤ v.toInt ∧ v.toInt ≤ 1000000) hs_76 (T_X12_sureOf ⟨by omega, by omega⟩ hs_76.1)) (fun v_84 s_85 (hq : (0 ≤ v_84.toInt ∧ v_84.toInt ≤ 1000000) ∧ RM s s_85) => ?_)
          obtain ⟨hv_87, hs_86⟩ := hq
          extract_lets +onlyGivenNames v_88
          clear_value v_88
          refine ok_ite (fun h_89 => ?_) (fun h_90 => ?_)
          · unfold F_X12_pair_105
            exact ok_some (lp_inl ⟨rfl, rfl, hs_86, (up_0 (x := x_56) (by omega) (by omega))⟩ (up_t (x := x_56) (by omega)))
          · unfold F_X12_pair_105
            exact ok_some (lp_inl ⟨rfl, rfl, hs_86, (up_0 (x := x_56) (by omega) (by omega))⟩ (up_t (x := x_56) (by omega)))
    · have hk_91 := im_112 hR.1
      have hc_92 := r_nle (by decide : (ci 2).toInt = 2) (rfl : (s.1 89 112).toInt = _) h_9
      unfold F_X12_pair_20
      exact ok_some ⟨trivial, hR⟩
end
end
/-! 57.e -/
section
noncomputable section
theorem T_X12_laysChances {s : mG} (hI : IM s) : ok (F_X12_laysChances s) (RM s) := by
  have hR : RM s s := RM_refl hI
  unfold F_X12_laysChances
  unfold F_X12_laysChances_L2
  refine ok_whl (fun v => RM s v.2 ∧ 0 ≤ (v.1).toInt) (fun v => mUp v.1) ⟨hR, (show 0 ≤ (ci 0).toInt by rw [((by decide : (ci 0).toInt = 0) : (ci 0).toInt = 0)]; omega)⟩ (fun v hv => ?_)
  obtain ⟨x_3, s_4⟩ := v
  obtain ⟨rhs_5, rhn_6⟩ := hv
  have hs_5 : RM s s_4 := rhs_5
  have hn_6 : 0 ≤ x_3.toInt := rhn_6
  clear rhs_5 rhn_6
  show ok (F_X12_laysChances_B2 x_3 s_4) _
  unfold F_X12_laysChances_B2
  refine ok_ite (fun h_7 => ?_) (fun h_8 => ?_)
  · have hk_9 := im_112 hs_5.1
    have hk_10 := rm_k 89 112 hs_5 (by decide)
    have hc_11 := r_lt (rfl : (s_4.1 89 112).toInt = _) (rfl : (x_3).toInt = _) h_7
    refine ok_b1r ?_
    unfold F_X12_laysChances_L38
    refine ok_whl (fun v => RM s v.2 ∧ 0 ≤ (v.1).toInt) (fun v => mUp v.1) ⟨hs_5, (show 0 ≤ (ci 0).toInt by rw [((by decide : (ci 0).toInt = 0) : (ci 0).toInt = 0)]; omega)⟩ (fun v hv => ?_)
    obtain ⟨x_20, s_21⟩ := v
    obtain ⟨rhs_22, rhn_23⟩ := hv
    have hs_22 : RM s s_21 := rhs_22
    have hn_23 : 0 ≤ x_20.toInt := rhn_23
    clear rhs_22 rhn_23
    show ok (F_X12_laysChances_B38 x_20 s_21) _
    unfold F_X12_laysChances_B38
    refine ok_ite (fun h_24 => ?_) (fun h_25 => ?_)
    · have hk_26 := im_112 hs_22.1
      have hk_27 := rm_k 89 112 hs_22 (by decide)
      have hc_28 := r_le (rfl : (s_21.1 89 112).toInt = _) (rfl : (x_20).toInt = _) h_24
      exact ok_some (lp_inr (hs_22))
    · have hk_29 := im_112 hs_22.1
      have hk_30 := rm_k 89 112 hs_22 (by decide)
      have hc_31 := r_nle (rfl : (s_21.1 89 112).toInt = _) (rfl : (x_20).toInt = _) h_25
      have hk_32 := im_112 hR.1
      have hk_33 := im_1049 hs_22.1
      have hk_34 := rm_k 89 1049 hs_22 (by decide)
      have hk_35 := im_1049 hR.1
      have hk_36 := im_118 hs_22.1
      have hk_37 := rm_k 89 118 hs_22 (by decide)
      have hk_38 := im_118 hR.1
      refine ok_b2 (ok_rm2 (C := fun (v : Int64) => 0 ≤ v.toInt ∧ v.toInt ≤ 1000000) hs_22 (T_X12_sureOf ⟨by omega, by omega⟩ hs_22.1)) (fun v_39 s_40 (hq : (0 ≤ v_39.toInt ∧ v_39.toInt ≤ 1000000) ∧ RM s s_40) => ?_)
      obtain ⟨hv_42, hs_41⟩ := hq
      unfold F_X12_laysChances_L64
      have hk_43 := im_112 hs_41.1
      have hk_44 := rm_k 89 112 hs_41 (by decide)
      refine ok_whl (fun v => x_20 = v.1 ∧ v_39 = v.2.1 ∧ RM s v.2.2.2 ∧ (v.2.2.1).toInt ≤ (s_40.1 89 112).toInt) (fun v => mDn v.2.2.1) ⟨rfl, rfl, hs_41, (show (s_40.1 89 112).toInt ≤ (s_40.1 89 112).toInt by omega)⟩ (fun v hv => ?_)
      obtain ⟨x_45, x_46, x_47, s_48⟩ := v
      obtain ⟨rfl, rfl, rhs_49, rhn_50⟩ := hv
      have hs_49 : RM s s_48 := rhs_49
      have hn_50 : x_47.toInt ≤ (s_40.1 89 112).toInt := rhn_50
      clear rhs_49 rhn_50
      show ok (F_X12_laysChances_B64 x_20 v_39 x_47 s_48) _
      unfold F_X12_laysChances_B64
      refine ok_ite (fun h_51 => ?_) (fun h_52 => ?_)
      · have hc_53 := r_lt (rfl : (x_47).toInt = _) (by decide : (0 : Int32).toInt = 0) h_51
        exact ok_some (lp_inr (lp_inl ⟨hs_49, (up_0 (x := x_20) (by omega) (by omega))⟩ (up_t (x := x_20) (by omega))))
      · have hc_54 := r_nlt (rfl : (x_47).toInt = _) (by decide : (0 : Int32).toInt = 0) h_52
        refine ok_nn (ix_ok (rfl : (x_47).toInt = _) (by omega) (by omega)) ?_
        refine ok_ite (fun h_55 => ?_) (fun h_56 => ?_)
        · have hc_57 := r_eq (rfl : (x_47).toInt = _) (by decide : (0 : Int32).toInt = 0) h_55
          unfold F_X12_laysChances_116
          refine ok_nn (ix_ok (rfl : (x_47).toInt = _) (by omega) (by omega)) ?_
          extract_lets +onlyGivenNames s_58
          have hs_59 : RM s s_58 := (RM_muL hs_49)
          clear_value s_58
          exact ok_some (lp_inl ⟨rfl, rfl, hs_59, (dn_le (x := x_47) (by omega) (by omega))⟩ (dn_i (x := x_47) (by omega)))
        · have hc_60 := r_ne (rfl : (x_47).toInt = _) (by decide : (0 : Int32).toInt = 0) h_56
          refine ok_nn (ix_ok (r_sub (rfl : (x_47).toInt = _) (by decide : (ci 1).toInt = 1) (by omega) (by omega)) (by omega) (by omega)) ?_
          unfold F_X12_laysChances_116
          refine ok_nn (ix_ok (rfl : (x_47).toInt = _) (by omega) (by omega)) ?_
          extract_lets +onlyGivenNames s_61
          have hs_62 : RM s s_61 := (RM_muL hs_49)
          clear_value s_61
          exact ok_some (lp_inl ⟨rfl, rfl, hs_62, (dn_le (x := x_47) (by omega) (by omega))⟩ (dn_i (x := x_47) (by omega)))
  · have hk_63 := im_112 hs_5.1
    have hk_64 := rm_k 89 112 hs_5 (by decide)
    have hc_65 := r_nlt (rfl : (s_4.1 89 112).toInt = _) (rfl : (x_3).toInt = _) h_8
    refine ok_ite (fun h_66 => ?_) (fun h_67 => ?_)
    · have hc_68 := r_eq (rfl : (x_3).toInt = _) (by decide : (0 : Int32).toInt = 0) h_66
      unfold F_X12_laysChances_29
      refine ok_nn (ix_ok (rfl : (x_3).toInt = _) (by omega) (by omega)) ?_
      extract_lets +onlyGivenNames s_69
      have hs_70 : RM s s_69 := (RM_muL hs_5)
      clear_value s_69
      exact ok_some (lp_inl ⟨hs_70, (up_0 (x := x_3) (by omega) (by omega))⟩ (up_t (x := x_3) (by omega)))
    · have hc_71 := r_ne (rfl : (x_3).toInt = _) (by decide : (0 : Int32).toInt = 0) h_67
      unfold F_X12_laysChances_29
      refine ok_nn (ix_ok (rfl : (x_3).toInt = _) (by omega) (by omega)) ?_
      extract_lets +onlyGivenNames s_72
      have hs_73 : RM s s_72 := (RM_muL hs_5)
      clear_value s_72
      exact ok_some (lp_inl ⟨hs_73, (up_0 (x := x_3) (by omega) (by omega))⟩ (up_t (x := x_3) (by omega)))
theorem T_X12_many {a1 : Int32} {s : mG} (hI : IM s) : ok (F_X12_many a1 s) (fun τ => (True) ∧ RM s τ.2) := by
  have hR : RM s s := RM_refl hI
  unfold F_X12_many
  refine ok_b1 (T_X12_isIn hR.1) (fun v_1 (hv_2 : QI v_1 a1 (ci 0) (ci 2)) => ?_)
  refine ok_ite (fun h_3 => ?_) (fun h_4 => ?_)
  · have hc_5 := r_eq (rfl : (v_1).toInt = _) (by decide : (0 : Int32).toInt = 0) h_3
    exact ok_some ⟨trivial, hR⟩
  · have hc_6 := r_ne (rfl : (v_1).toInt = _) (by decide : (0 : Int32).toInt = 0) h_4
    have hf_7 := isin_f (a := a1) (by decide : (ci 0).toInt = 0) (by decide : (ci 2).toInt = 2) (hv_2.2 h_4)
    unfold F_X12_many_L16
    refine ok_whl (fun v => a1 = v.1 ∧ RM s v.2.2.2 ∧ 0 ≤ (v.2.2.1).toInt) (fun v => mUp v.2.2.1) ⟨rfl, hR, (show 0 ≤ (ci 0).toInt by rw [((by decide : (ci 0).toInt = 0) : (ci 0).toInt = 0)]; omega)⟩ (fun v hv => ?_)
    obtain ⟨x_12, x_13, x_14, s_15⟩ := v
    obtain ⟨rfl, rhs_16, rhn_17⟩ := hv
    have hs_16 : RM s s_15 := rhs_16
    have hn_17 : 0 ≤ x_14.toInt := rhn_17
    clear rhs_16 rhn_17
    show ok (F_X12_many_B16 a1 x_13 x_14 s_15) _
    unfold F_X12_many_B16
    refine ok_ite (fun h_18 => ?_) (fun h_19 => ?_)
    · have hk_20 := im_112 hs_16.1
      have hk_21 := rm_k 89 112 hs_16 (by decide)
      have hc_22 := r_le (rfl : (s_15.1 89 112).toInt = _) (rfl : (x_14).toInt = _) h_18
      refine ok_ite (fun h_23 => ?_) (fun h_24 => ?_)
      · have hc_25 := r_eq (rfl : (a1).toInt = _) (by decide : (0 : Int32).toInt = 0) h_23
        extract_lets +onlyGivenNames v_26
        clear_value v_26
        exact ok_some (lp_inr (⟨trivial, hs_16⟩))
      · have hc_27 := r_ne (rfl : (a1).toInt = _) (by decide : (0 : Int32).toInt = 0) h_24
        refine ok_b1 (ok_rm hs_16 (T_X12_laysChances hs_16.1)) (fun s_28 (hs_29 : RM s s_28) => ?_)
        refine ok_b1r ?_
        unfold F_X12_many_L64
        refine ok_whl (fun v => a1 = v.1 ∧ RM s v.2.2.2 ∧ 0 ≤ (v.2.2.1).toInt ∧ (0 ≤ (v.2.1).toInt ∧ (v.2.1).toInt ≤ 12)) (fun v => mUp v.2.2.1) ⟨rfl, hs_29, (show 0 ≤ (ci 1).toInt by rw [((by decide : (ci 1).toInt = 1) : (ci 1).toInt = 1)]; omega), (show 0 ≤ (ci 0).toInt ∧ (ci 0).toInt ≤ 12 by rw [((by decide : (ci 0).toInt = 0) : (ci 0).toInt = 0)]; exact ⟨by omega, by omega⟩)⟩ (fun v hv => ?_)
        obtain ⟨x_31, x_32, x_33, s_34⟩ := v
        obtain ⟨rfl, rhs_35, rhn_36, rhn_37⟩ := hv
        have hs_35 : RM s s_34 := rhs_35
        have hn_36 : 0 ≤ x_33.toInt := rhn_36
        have hn_37 : 0 ≤ (x_32).toInt ∧ (x_32).toInt ≤ 12 := rhn_37
        clear rhs_35 rhn_36 rhn_37
        show ok (F_X12_many_B64 a1 x_32 x_33 s_34) _
        unfold F_X12_many_B64
        refine ok_ite (fun h_38 => ?_) (fun h_39 => ?_)
        · have hk_40 := im_112 hs_35.1
          have hk_41 := rm_k 89 112 hs_35 (by decide)
          have hc_42 := r_lt (rfl : (s_34.1 89 112).toInt = _) (rfl : (x_33).toInt = _) h_38
          refine ok_ite (fun h_43 => ?_) (fun h_44 => ?_)
          · have hc_45 := r_eq (rfl : (a1).toInt = _) (by decide : (ci 1).toInt = 1) h_43
            exact ok_some (lp_inr (⟨trivial, hs_35⟩))
          · have hc_46 := r_ne (rfl : (a1).toInt = _) (by decide : (ci 1).toInt = 1) h_44
            refine ok_nn (ix_ok (rfl : (x_32).toInt = _) (by omega) (by omega)) ?_
            extract_lets +onlyGivenNames v_47
            clear_value v_47
            exact ok_some (lp_inr (⟨trivial, hs_35⟩))
        · have hk_48 := im_112 hs_35.1
          have hk_49 := rm_k 89 112 hs_35 (by decide)
          have hc_50 := r_nlt (rfl : (s_34.1 89 112).toInt = _) (rfl : (x_33).toInt = _) h_39
          refine ok_nn (ix_ok (rfl : (x_33).toInt = _) (by omega) (by omega)) ?_
          refine ok_nn (ix_ok (rfl : (x_32).toInt = _) (by omega) (by omega)) ?_
          refine ok_ite (fun h_51 => ?_) (fun h_52 => ?_)
          · unfold F_X12_many_98
            exact ok_some (lp_inl ⟨rfl, hs_35, (up_0 (x := x_33) (by omega) (by omega)), (show 0 ≤ (x_32).toInt ∧ (x_32).toInt ≤ 12 from ⟨by omega, by omega⟩)⟩ (up_t (x := x_33) (by omega)))
          · unfold F_X12_many_98
            exact ok_some (lp_inl ⟨rfl, hs_35, (up_0 (x := x_33) (by omega) (by omega)), (show 0 ≤ (x_33).toInt ∧ (x_33).toInt ≤ 12 from ⟨by omega, by omega⟩)⟩ (up_t (x := x_33) (by omega)))
    · have hk_53 := im_112 hs_16.1
      have hk_54 := rm_k 89 112 hs_16 (by decide)
      have hc_55 := r_nle (rfl : (s_15.1 89 112).toInt = _) (rfl : (x_14).toInt = _) h_19
      have hk_56 := im_112 hR.1
      have hk_57 := im_1049 hs_16.1
      have hk_58 := rm_k 89 1049 hs_16 (by decide)
      have hk_59 := im_1049 hR.1
      have hk_60 := im_118 hs_16.1
      have hk_61 := rm_k 89 118 hs_16 (by decide)
      have hk_62 := im_118 hR.1
      refine ok_b2 (ok_rm2 (C := fun (v : Int64) => 0 ≤ v.toInt ∧ v.toInt ≤ 1000000) hs_16 (T_X12_sureOf ⟨by omega, by omega⟩ hs_16.1)) (fun v_63 s_64 (hq : (0 ≤ v_63.toInt ∧ v_63.toInt ≤ 1000000) ∧ RM s s_64) => ?_)
      obtain ⟨hv_66, hs_65⟩ := hq
      exact ok_some (lp_inl ⟨rfl, hs_65, (up_0 (x := x_14) (by omega) (by omega))⟩ (up_t (x := x_14) (by omega)))
theorem T_X12_tagCostOf {a1 : Int32} {a2 : Int32} {a3 : Int32} {s : mG} (hI : IM s) : ok (F_X12_tagCostOf a1 a2 a3 s) (fun τ => (True) ∧ RM s τ.2) := by
  have hR : RM s s := RM_refl hI
  unfold F_X12_tagCostOf
  unfold F_X12_tagCostOf_L6
  refine ok_whl (fun v => a1 = v.1 ∧ a2 = v.2.1 ∧ a3 = v.2.2.1 ∧ RM s v.2.2.2.2.2 ∧ 0 ≤ (v.2.2.2.2.1).toInt) (fun v => mUp v.2.2.2.2.1) ⟨rfl, rfl, rfl, hR, (show 0 ≤ (ci 0).toInt by rw [((by decide : (ci 0).toInt = 0) : (ci 0).toInt = 0)]; omega)⟩ (fun v hv => ?_)
  obtain ⟨x_4, x_5, x_6, x_7, x_8, s_9⟩ := v
  obtain ⟨rfl, rfl, rfl, rhs_10, rhn_11⟩ := hv
  have hs_10 : RM s s_9 := rhs_10
  have hn_11 : 0 ≤ x_8.toInt := rhn_11
  clear rhs_10 rhn_11
  show ok (F_X12_tagCostOf_B6 a1 a2 a3 x_7 x_8 s_9) _
  unfold F_X12_tagCostOf_B6
  refine ok_ite (fun h_12 => ?_) (fun h_13 => ?_)
  · have hk_14 := im_112 hs_10.1
    have hk_15 := rm_k 89 112 hs_10 (by decide)
    have hc_16 := r_le (rfl : (s_9.1 89 112).toInt = _) (rfl : (x_8).toInt = _) h_12
    extract_lets +onlyGivenNames v_17
    clear_value v_17
    exact ok_some (lp_inr (⟨trivial, hs_10⟩))
  · have hk_18 := im_112 hs_10.1
    have hk_19 := rm_k 89 112 hs_10 (by decide)
    have hc_20 := r_nle (rfl : (s_9.1 89 112).toInt = _) (rfl : (x_8).toInt = _) h_13
    refine ok_nn (ix_ok (r_add (by decide : (c8 27).toInt = 27) (rfl : (x_8).toInt = _) (by omega) (by omega)) (by omega) (by omega)) ?_
    have hk_21 := im_112 hR.1
    refine ok_b2 (ok_rm2 (C := fun (v : Int32) => 0 ≤ v.toInt ∧ v.toInt ≤ 1000) hs_10 (T_X12_saysIn ⟨by omega, by omega⟩ hs_10.1)) (fun v_22 s_23 (hq : (0 ≤ v_22.toInt ∧ v_22.toInt ≤ 1000) ∧ RM s s_23) => ?_)
    obtain ⟨hv_25, hs_24⟩ := hq
    exact ok_some (lp_inl ⟨rfl, rfl, rfl, hs_24, (up_0 (x := x_8) (by omega) (by omega))⟩ (up_t (x := x_8) (by omega)))
theorem T_X12_tag {a1 : Int32} {a2 : Int32} {s : mG} (hI : IM s) : ok (F_X12_tag a1 a2 s) (fun τ => (True) ∧ RM s τ.2) := by
  have hR : RM s s := RM_refl hI
  unfold F_X12_tag
  refine ok_b1 (T_X12_isIn hR.1) (fun v_1 (hv_2 : QI v_1 a1 (ci 0) (c16 999)) => ?_)
  refine ok_ite (fun h_3 => ?_) (fun h_4 => ?_)
  · have hc_5 := r_eq (rfl : (v_1).toInt = _) (by decide : (0 : Int32).toInt = 0) h_3
    unfold F_X12_tag_22
    exact ok_some ⟨trivial, hR⟩
  · have hc_6 := r_ne (rfl : (v_1).toInt = _) (by decide : (0 : Int32).toInt = 0) h_4
    have hf_7 := isin_f (a := a1) (by decide : (ci 0).toInt = 0) (by decide : (c16 999).toInt = 999) (hv_2.2 h_4)
    refine ok_b1 (T_X12_isIn hR.1) (fun v_8 (hv_9 : QI v_8 a2 (ci 0) (c16 999)) => ?_)
    refine ok_ite (fun h_10 => ?_) (fun h_11 => ?_)
    · have hc_12 := r_eq (rfl : (v_8).toInt = _) (by decide : (0 : Int32).toInt = 0) h_10
      unfold F_X12_tag_22
      exact ok_some ⟨trivial, hR⟩
    · have hc_13 := r_ne (rfl : (v_8).toInt = _) (by decide : (0 : Int32).toInt = 0) h_11
      have hf_14 := isin_f (a := a2) (by decide : (ci 0).toInt = 0) (by decide : (c16 999).toInt = 999) (hv_9.2 h_11)
      unfold F_X12_tag_L29
      refine ok_whl (fun v => a1 = v.1 ∧ a2 = v.2.1 ∧ RM s v.2.2.2.2 ∧ 0 ≤ (v.2.2.2.1).toInt) (fun v => mUp v.2.2.2.1) ⟨rfl, rfl, hR, (show 0 ≤ (ci 1).toInt by rw [((by decide : (ci 1).toInt = 1) : (ci 1).toInt = 1)]; omega)⟩ (fun v hv => ?_)
      obtain ⟨x_19, x_20, x_21, x_22, s_23⟩ := v
      obtain ⟨rfl, rfl, rhs_24, rhn_25⟩ := hv
      have hs_24 : RM s s_23 := rhs_24
      have hn_25 : 0 ≤ x_22.toInt := rhn_25
      clear rhs_24 rhn_25
      show ok (F_X12_tag_B29 a1 a2 x_21 x_22 s_23) _
      unfold F_X12_tag_B29
      refine ok_ite (fun h_26 => ?_) (fun h_27 => ?_)
      · have hc_28 := r_lt (by decide : (c8 20).toInt = 20) (rfl : (x_22).toInt = _) h_26
        exact ok_some (lp_inr (⟨trivial, hs_24⟩))
      · have hc_29 := r_nlt (by decide : (c8 20).toInt = 20) (rfl : (x_22).toInt = _) h_27
        refine ok_b2 (ok_rm2 (C := fun (v : Int32) => True) hs_24 (T_X12_tagCostOf hs_24.1)) (fun v_30 s_31 (hq : (True) ∧ RM s s_31) => ?_)
        obtain ⟨hv_33, hs_32⟩ := hq
        refine ok_b2 (ok_rm2 (C := fun (v : Int32) => True) hs_32 (T_X12_tagCostOf hs_32.1)) (fun v_34 s_35 (hq : (True) ∧ RM s s_35) => ?_)
        obtain ⟨hv_37, hs_36⟩ := hq
        refine ok_ite (fun h_38 => ?_) (fun h_39 => ?_)
        · have hc_40 := r_le (rfl : (v_34).toInt = _) (rfl : (v_30).toInt = _) h_38
          unfold F_X12_tag_57
          exact ok_some (lp_inl ⟨rfl, rfl, hs_36, (up_0 (x := x_22) (by omega) (by omega))⟩ (up_t (x := x_22) (by omega)))
        · have hc_41 := ge_t h_39
          have hc_42 := r_nle (rfl : (v_34).toInt = _) (rfl : (v_30).toInt = _) h_39
          unfold F_X12_tag_57
          exact ok_some (lp_inl ⟨rfl, rfl, hs_36, (up_0 (x := x_22) (by omega) (by omega))⟩ (up_t (x := x_22) (by omega)))
end
end
/-! 57.f -/
section
noncomputable section
theorem T_X12_tagCost {a1 : Int32} {a2 : Int32} {a3 : Int32} {s : mG} (hI : IM s) : ok (F_X12_tagCost a1 a2 a3 s) (fun τ => (True) ∧ RM s τ.2) := by
  have hR : RM s s := RM_refl hI
  unfold F_X12_tagCost
  refine ok_b1 (T_X12_isIn hR.1) (fun v_1 (hv_2 : QI v_1 a1 (ci 0) (c16 999)) => ?_)
  refine ok_ite (fun h_3 => ?_) (fun h_4 => ?_)
  · have hc_5 := r_eq (rfl : (v_1).toInt = _) (by decide : (0 : Int32).toInt = 0) h_3
    unfold F_X12_tagCost_42
    exact ok_some ⟨trivial, hR⟩
  · have hc_6 := r_ne (rfl : (v_1).toInt = _) (by decide : (0 : Int32).toInt = 0) h_4
    have hf_7 := isin_f (a := a1) (by decide : (ci 0).toInt = 0) (by decide : (c16 999).toInt = 999) (hv_2.2 h_4)
    refine ok_b1 (T_X12_isIn hR.1) (fun v_8 (hv_9 : QI v_8 a2 (ci 0) (c16 999)) => ?_)
    refine ok_ite (fun h_10 => ?_) (fun h_11 => ?_)
    · have hc_12 := r_eq (rfl : (v_8).toInt = _) (by decide : (0 : Int32).toInt = 0) h_10
      unfold F_X12_tagCost_42
      exact ok_some ⟨trivial, hR⟩
    · have hc_13 := r_ne (rfl : (v_8).toInt = _) (by decide : (0 : Int32).toInt = 0) h_11
      have hf_14 := isin_f (a := a2) (by decide : (ci 0).toInt = 0) (by decide : (c16 999).toInt = 999) (hv_9.2 h_11)
      refine ok_b1 (T_X12_isIn hR.1) (fun v_15 (hv_16 : QI v_15 a3 (ci 0) (c8 20)) => ?_)
      refine ok_ite (fun h_17 => ?_) (fun h_18 => ?_)
      · have hc_19 := r_eq (rfl : (v_15).toInt = _) (by decide : (0 : Int32).toInt = 0) h_17
        unfold F_X12_tagCost_42
        exact ok_some ⟨trivial, hR⟩
      · have hc_20 := r_ne (rfl : (v_15).toInt = _) (by decide : (0 : Int32).toInt = 0) h_18
        have hf_21 := isin_f (a := a3) (by decide : (ci 0).toInt = 0) (by decide : (c8 20).toInt = 20) (hv_16.2 h_18)
        refine ok_b2 (ok_rm2 (C := fun (v : Int32) => True) hR (T_X12_tagCostOf hR.1)) (fun v_22 s_23 (hq : (True) ∧ RM s s_23) => ?_)
        obtain ⟨hv_25, hs_24⟩ := hq
        exact ok_some ⟨trivial, hs_24⟩
theorem T_X12_longFrom {s : mG} {a1 : Int32} {a2 : Int64} (h_a1 : 0 ≤ a1.toInt) (hI : IM s) : ok (F_X12_longFrom s a1 a2) (fun (v : Int32) => True) := by
  have hR : RM s s := RM_refl hI
  unfold F_X12_longFrom
  unfold F_X12_longFrom_L6
  refine ok_whl (fun v => a1 = v.1 ∧ a2 = v.2.1 ∧ 0 ≤ (v.2.2.2).toInt) (fun v => mUp v.2.2.2) ⟨rfl, rfl, (show 0 ≤ (a1).toInt by omega)⟩ (fun v hv => ?_)
  obtain ⟨x_2, x_3, x_4, x_5⟩ := v
  obtain ⟨rfl, rfl, rhn_6⟩ := hv
  have hn_6 : 0 ≤ x_5.toInt := rhn_6
  clear rhn_6
  show ok (F_X12_longFrom_B6 s a1 a2 x_4 x_5) _
  unfold F_X12_longFrom_B6
  refine ok_ite (fun h_7 => ?_) (fun h_8 => ?_)
  · have hk_9 := im_112 hR.1
    have hc_10 := r_lt (rfl : (s.1 89 112).toInt = _) (rfl : (x_5).toInt = _) h_7
    exact ok_some (lp_inr (trivial))
  · have hk_11 := im_112 hR.1
    have hc_12 := r_nlt (rfl : (s.1 89 112).toInt = _) (rfl : (x_5).toInt = _) h_8
    refine ok_nn (ix_ok (rfl : (x_5).toInt = _) (by omega) (by omega)) ?_
    extract_lets +onlyGivenNames v_13
    clear_value v_13
    refine ok_ite (fun h_14 => ?_) (fun h_15 => ?_)
    · exact ok_some (lp_inl ⟨rfl, rfl, (up_0 (x := x_5) (by omega) (by omega))⟩ (up_t (x := x_5) (by omega)))
    · exact ok_some (lp_inr (trivial))
theorem T_X12_span {a1 : Int32} {a2 : Int32} {s : mG} (hI : IM s) : ok (F_X12_span a1 a2 s) (fun τ => (True) ∧ RM s τ.2) := by
  have hR : RM s s := RM_refl hI
  unfold F_X12_span
  refine ok_b1 (T_X12_isIn hR.1) (fun v_1 (hv_2 : QI v_1 a1 (ci 0) (c16 1000)) => ?_)
  refine ok_ite (fun h_3 => ?_) (fun h_4 => ?_)
  · have hc_5 := r_eq (rfl : (v_1).toInt = _) (by decide : (0 : Int32).toInt = 0) h_3
    unfold F_X12_span_20
    exact ok_some ⟨trivial, hR⟩
  · have hc_6 := r_ne (rfl : (v_1).toInt = _) (by decide : (0 : Int32).toInt = 0) h_4
    have hf_7 := isin_f (a := a1) (by decide : (ci 0).toInt = 0) (by decide : (c16 1000).toInt = 1000) (hv_2.2 h_4)
    refine ok_b1 (T_X12_isIn hR.1) (fun v_8 (hv_9 : QI v_8 a2 (ci 0) (ci 1)) => ?_)
    refine ok_ite (fun h_10 => ?_) (fun h_11 => ?_)
    · have hc_12 := r_eq (rfl : (v_8).toInt = _) (by decide : (0 : Int32).toInt = 0) h_10
      unfold F_X12_span_20
      exact ok_some ⟨trivial, hR⟩
    · have hc_13 := r_ne (rfl : (v_8).toInt = _) (by decide : (0 : Int32).toInt = 0) h_11
      have hf_14 := isin_f (a := a2) (by decide : (ci 0).toInt = 0) (by decide : (ci 1).toInt = 1) (hv_9.2 h_11)
      refine ok_b1 (ok_rm hR (T_X12_laysChances hR.1)) (fun s_15 (hs_16 : RM s s_15) => ?_)
      unfold F_X12_span_L34
      refine ok_whl (fun v => a1 = v.1 ∧ a2 = v.2.1 ∧ RM s v.2.2.2.2.2 ∧ 0 ≤ (v.2.2.2.2.1).toInt) (fun v => mUp v.2.2.2.2.1) ⟨rfl, rfl, hs_16, (show 0 ≤ (ci 0).toInt by rw [((by decide : (ci 0).toInt = 0) : (ci 0).toInt = 0)]; omega)⟩ (fun v hv => ?_)
      obtain ⟨x_18, x_19, x_20, x_21, x_22, s_23⟩ := v
      obtain ⟨rfl, rfl, rhs_24, rhn_25⟩ := hv
      have hs_24 : RM s s_23 := rhs_24
      have hn_25 : 0 ≤ x_22.toInt := rhn_25
      clear rhs_24 rhn_25
      show ok (F_X12_span_B34 a1 a2 x_20 x_21 x_22 s_23) _
      unfold F_X12_span_B34
      refine ok_ite (fun h_26 => ?_) (fun h_27 => ?_)
      · have hk_28 := im_112 hs_24.1
        have hk_29 := rm_k 89 112 hs_24 (by decide)
        have hc_30 := r_lt (rfl : (s_23.1 89 112).toInt = _) (rfl : (x_22).toInt = _) h_26
        refine ok_ite (fun h_31 => ?_) (fun h_32 => ?_)
        · have hc_33 := r_eq (rfl : (x_21).toInt = _) (by decide : (ci (-1)).toInt = (-1)) h_31
          refine ok_b1r ?_
          unfold F_X12_span_103
          exact ok_some ⟨trivial, hs_24⟩
        · have hc_34 := r_ne (rfl : (x_21).toInt = _) (by decide : (ci (-1)).toInt = (-1)) h_32
          refine ok_ite (fun h_35 => ?_) (fun h_36 => ?_)
          · have hc_37 := r_eq (rfl : (a2).toInt = _) (by decide : (0 : Int32).toInt = 0) h_35
            refine ok_b1r ?_
            unfold F_X12_span_103
            exact ok_some ⟨trivial, hs_24⟩
          · have hc_38 := r_ne (rfl : (a2).toInt = _) (by decide : (0 : Int32).toInt = 0) h_36
            exact ok_some (lp_inr (⟨trivial, hs_24⟩))
      · have hk_39 := im_112 hs_24.1
        have hk_40 := rm_k 89 112 hs_24 (by decide)
        have hc_41 := r_nlt (rfl : (s_23.1 89 112).toInt = _) (rfl : (x_22).toInt = _) h_27
        refine ok_b1 (T_X12_longFrom (by omega) hs_24.1) (fun v_42 _ => ?_)
        refine ok_ite (fun h_44 => ?_) (fun h_45 => ?_)
        · have hc_46 := r_eq (rfl : (v_42).toInt = _) (by decide : (ci (-1)).toInt = (-1)) h_44
          unfold F_X12_span_87
          exact ok_some (lp_inl ⟨rfl, rfl, hs_24, (up_0 (x := x_22) (by omega) (by omega))⟩ (up_t (x := x_22) (by omega)))
        · have hc_47 := r_ne (rfl : (v_42).toInt = _) (by decide : (ci (-1)).toInt = (-1)) h_45
          refine ok_ite (fun h_48 => ?_) (fun h_49 => ?_)
          · have hc_50 := r_eq (rfl : (x_20).toInt = _) (by decide : (ci (-1)).toInt = (-1)) h_48
            unfold F_X12_span_80
            unfold F_X12_span_87
            exact ok_some (lp_inl ⟨rfl, rfl, hs_24, (up_0 (x := x_22) (by omega) (by omega))⟩ (up_t (x := x_22) (by omega)))
          · have hc_51 := r_ne (rfl : (x_20).toInt = _) (by decide : (ci (-1)).toInt = (-1)) h_49
            refine ok_ite (fun h_52 => ?_) (fun h_53 => ?_)
            · have hc_54 := r_lt (rfl : (v_42).toInt = _) (rfl : (x_20).toInt = _) h_52
              unfold F_X12_span_80
              unfold F_X12_span_87
              exact ok_some (lp_inl ⟨rfl, rfl, hs_24, (up_0 (x := x_22) (by omega) (by omega))⟩ (up_t (x := x_22) (by omega)))
            · have hc_55 := r_nlt (rfl : (v_42).toInt = _) (rfl : (x_20).toInt = _) h_53
              unfold F_X12_span_87
              exact ok_some (lp_inl ⟨rfl, rfl, hs_24, (up_0 (x := x_22) (by omega) (by omega))⟩ (up_t (x := x_22) (by omega)))
theorem T_X12_laysOthers {a1 : Int32} {s : mG} (hI : IM s) : ok (F_X12_laysOthers a1 s) (RM s) := by
  have hR : RM s s := RM_refl hI
  unfold F_X12_laysOthers
  unfold F_X12_laysOthers_L2
  refine ok_whl (fun v => a1 = v.1 ∧ RM s v.2.2 ∧ 0 ≤ (v.2.1).toInt) (fun v => mUp v.2.1) ⟨rfl, hR, (show 0 ≤ (ci 0).toInt by rw [((by decide : (ci 0).toInt = 0) : (ci 0).toInt = 0)]; omega)⟩ (fun v hv => ?_)
  obtain ⟨x_3, x_4, s_5⟩ := v
  obtain ⟨rfl, rhs_6, rhn_7⟩ := hv
  have hs_6 : RM s s_5 := rhs_6
  have hn_7 : 0 ≤ x_4.toInt := rhn_7
  clear rhs_6 rhn_7
  show ok (F_X12_laysOthers_B2 a1 x_4 s_5) _
  unfold F_X12_laysOthers_B2
  refine ok_ite (fun h_8 => ?_) (fun h_9 => ?_)
  · have hc_10 := r_le (by decide : (c8 14).toInt = 14) (rfl : (x_4).toInt = _) h_8
    refine ok_b1r ?_
    unfold F_X12_laysOthers_L34
    refine ok_whl (fun v => a1 = v.1 ∧ RM s v.2.2 ∧ 0 ≤ (v.2.1).toInt) (fun v => mUp v.2.1) ⟨rfl, hs_6, (show 0 ≤ (ci 0).toInt by rw [((by decide : (ci 0).toInt = 0) : (ci 0).toInt = 0)]; omega)⟩ (fun v hv => ?_)
    obtain ⟨x_17, x_18, s_19⟩ := v
    obtain ⟨rfl, rhs_20, rhn_21⟩ := hv
    have hs_20 : RM s s_19 := rhs_20
    have hn_21 : 0 ≤ x_18.toInt := rhn_21
    clear rhs_20 rhn_21
    show ok (F_X12_laysOthers_B34 a1 x_18 s_19) _
    unfold F_X12_laysOthers_B34
    refine ok_ite (fun h_22 => ?_) (fun h_23 => ?_)
    · have hk_24 := im_112 hs_20.1
      have hk_25 := rm_k 89 112 hs_20 (by decide)
      have hc_26 := r_le (rfl : (s_19.1 89 112).toInt = _) (rfl : (x_18).toInt = _) h_22
      exact ok_some (lp_inr (hs_20))
    · have hk_27 := im_112 hs_20.1
      have hk_28 := rm_k 89 112 hs_20 (by decide)
      have hc_29 := r_nle (rfl : (s_19.1 89 112).toInt = _) (rfl : (x_18).toInt = _) h_23
      refine ok_ite (fun h_30 => ?_) (fun h_31 => ?_)
      · have hc_32 := r_eq (rfl : (x_18).toInt = _) (rfl : (a1).toInt = _) h_30
        unfold F_X12_laysOthers_115
        exact ok_some (lp_inl ⟨rfl, hs_20, (up_0 (x := x_18) (by omega) (by omega))⟩ (up_t (x := x_18) (by omega)))
      · have hc_33 := r_ne (rfl : (x_18).toInt = _) (rfl : (a1).toInt = _) h_31
        have hk_34 := im_112 hR.1
        have hk_35 := im_1049 hs_20.1
        have hk_36 := rm_k 89 1049 hs_20 (by decide)
        have hk_37 := im_1049 hR.1
        have hk_38 := im_118 hs_20.1
        have hk_39 := rm_k 89 118 hs_20 (by decide)
        have hk_40 := im_118 hR.1
        refine ok_b2 (ok_rm2 (C := fun (v : Int64) => 0 ≤ v.toInt ∧ v.toInt ≤ 1000000) hs_20 (T_X12_sureOf ⟨by omega, by omega⟩ hs_20.1)) (fun v_41 s_42 (hq : (0 ≤ v_41.toInt ∧ v_41.toInt ≤ 1000000) ∧ RM s s_42) => ?_)
        obtain ⟨hv_44, hs_43⟩ := hq
        unfold F_X12_laysOthers_L63
        refine ok_whl (fun v => a1 = v.1 ∧ x_18 = v.2.1 ∧ v_41 = v.2.2.1 ∧ RM s v.2.2.2.2 ∧ (v.2.2.2.1).toInt ≤ 13) (fun v => mDn v.2.2.2.1) ⟨rfl, rfl, rfl, hs_43, (show (c8 13).toInt ≤ 13 by rw [((by decide : (c8 13).toInt = 13) : (c8 13).toInt = 13)]; omega)⟩ (fun v hv => ?_)
        obtain ⟨x_45, x_46, x_47, x_48, s_49⟩ := v
        obtain ⟨rfl, rfl, rfl, rhs_50, rhn_51⟩ := hv
        have hs_50 : RM s s_49 := rhs_50
        have hn_51 : x_48.toInt ≤ 13 := rhn_51
        clear rhs_50 rhn_51
        show ok (F_X12_laysOthers_B63 a1 x_18 v_41 x_48 s_49) _
        unfold F_X12_laysOthers_B63
        refine ok_ite (fun h_52 => ?_) (fun h_53 => ?_)
        · have hc_54 := r_lt (rfl : (x_48).toInt = _) (by decide : (ci 1).toInt = 1) h_52
          refine ok_b1r ?_
          unfold F_X12_laysOthers_115
          exact ok_some (lp_inl ⟨rfl, hs_50, (up_0 (x := x_18) (by omega) (by omega))⟩ (up_t (x := x_18) (by omega)))
        · have hc_55 := r_nlt (rfl : (x_48).toInt = _) (by decide : (ci 1).toInt = 1) h_53
          refine ok_nn (ix_ok (rfl : (x_48).toInt = _) (by omega) (by omega)) ?_
          refine ok_nn (ix_ok (r_sub (rfl : (x_48).toInt = _) (by decide : (ci 1).toInt = 1) (by omega) (by omega)) (by omega) (by omega)) ?_
          refine ok_nn (ix_ok (rfl : (x_48).toInt = _) (by omega) (by omega)) ?_
          extract_lets +onlyGivenNames s_56
          have hs_57 : RM s s_56 := (RM_muL hs_50)
          clear_value s_56
          exact ok_some (lp_inl ⟨rfl, rfl, rfl, hs_57, (dn_le (x := x_48) (by omega) (by omega))⟩ (dn_i (x := x_48) (by omega)))
  · have hc_58 := r_nle (by decide : (c8 14).toInt = 14) (rfl : (x_4).toInt = _) h_9
    refine ok_ite (fun h_59 => ?_) (fun h_60 => ?_)
    · have hc_61 := r_eq (rfl : (x_4).toInt = _) (by decide : (ci 1).toInt = 1) h_59
      unfold F_X12_laysOthers_25
      refine ok_nn (ix_ok (rfl : (x_4).toInt = _) (by omega) (by omega)) ?_
      extract_lets +onlyGivenNames s_62
      have hs_63 : RM s s_62 := (RM_muL hs_6)
      clear_value s_62
      exact ok_some (lp_inl ⟨rfl, hs_63, (up_0 (x := x_4) (by omega) (by omega))⟩ (up_t (x := x_4) (by omega)))
    · have hc_64 := r_ne (rfl : (x_4).toInt = _) (by decide : (ci 1).toInt = 1) h_60
      unfold F_X12_laysOthers_25
      refine ok_nn (ix_ok (rfl : (x_4).toInt = _) (by omega) (by omega)) ?_
      extract_lets +onlyGivenNames s_65
      have hs_66 : RM s s_65 := (RM_muL hs_6)
      clear_value s_65
      exact ok_some (lp_inl ⟨rfl, hs_66, (up_0 (x := x_4) (by omega) (by omega))⟩ (up_t (x := x_4) (by omega)))
theorem T_X12_counted {a1 : Int32} {a2 : Int32} {s : mG} (hI : IM s) : ok (F_X12_counted a1 a2 s) (fun τ => (True) ∧ RM s τ.2) := by
  have hR : RM s s := RM_refl hI
  unfold F_X12_counted
  refine ok_b1 (T_X12_isGuest hR.1) (fun v_1 (hv_2 : QG v_1 a1 (s.1 89 112)) => ?_)
  refine ok_ite (fun h_3 => ?_) (fun h_4 => ?_)
  · have hc_5 := r_eq (rfl : (v_1).toInt = _) (by decide : (0 : Int32).toInt = 0) h_3
    unfold F_X12_counted_18
    exact ok_some ⟨trivial, hR⟩
  · have hc_6 := r_ne (rfl : (v_1).toInt = _) (by decide : (0 : Int32).toInt = 0) h_4
    have hk_7 := im_112 hR.1
    have hk_8 := im_115 hR.1
    have hf_9 := hv_2.2 h_4
    refine ok_b1 (T_X12_isIn hR.1) (fun v_10 (hv_11 : QI v_10 a2 (ci 0) (c8 12)) => ?_)
    refine ok_ite (fun h_12 => ?_) (fun h_13 => ?_)
    · have hc_14 := r_eq (rfl : (v_10).toInt = _) (by decide : (0 : Int32).toInt = 0) h_12
      unfold F_X12_counted_18
      exact ok_some ⟨trivial, hR⟩
    · have hc_15 := r_ne (rfl : (v_10).toInt = _) (by decide : (0 : Int32).toInt = 0) h_13
      have hf_16 := isin_f (a := a2) (by decide : (ci 0).toInt = 0) (by decide : (c8 12).toInt = 12) (hv_11.2 h_13)
      refine ok_b1 (ok_rm hR (T_X12_laysOthers hR.1)) (fun s_17 (hs_18 : RM s s_17) => ?_)
      have hk_19 := im_112 hs_18.1
      have hk_20 := rm_k 89 112 hs_18 (by decide)
      have hk_21 := im_1049 hs_18.1
      have hk_22 := rm_k 89 1049 hs_18 (by decide)
      have hk_23 := im_1049 hR.1
      have hk_24 := im_118 hs_18.1
      have hk_25 := rm_k 89 118 hs_18 (by decide)
      have hk_26 := im_118 hR.1
      refine ok_b2 (ok_rm2 (C := fun (v : Int64) => 0 ≤ v.toInt ∧ v.toInt ≤ 1000000) hs_18 (T_X12_sureOf ⟨by omega, by omega⟩ hs_18.1)) (fun v_27 s_28 (hq : (0 ≤ v_27.toInt ∧ v_27.toInt ≤ 1000000) ∧ RM s s_28) => ?_)
      obtain ⟨hv_30, hs_29⟩ := hq
      refine ok_nn (ix_ok (rfl : (a2).toInt = _) (by omega) (by omega)) ?_
      extract_lets +onlyGivenNames v_31
      clear_value v_31
      refine ok_nn (ix_ok (r_add (rfl : (a2).toInt = _) (by decide : (ci 1).toInt = 1) (by omega) (by omega)) (by omega) (by omega)) ?_
      extract_lets +onlyGivenNames v_32
      clear_value v_32
      refine ok_ite (fun h_33 => ?_) (fun h_34 => ?_)
      · exact ok_some ⟨trivial, hs_29⟩
      · refine ok_nn (lgc_ne h_34) ?_
        extract_lets +onlyGivenNames v_35
        clear_value v_35
        exact ok_some ⟨trivial, hs_29⟩
end
end
/-! 57.g -/
section
noncomputable section
theorem T_X12_visit {a1 : Int32} {a2 : Int32} {s : mG} (hI : IM s) : ok (F_X12_visit a1 a2 s) (fun τ => (True) ∧ RM s τ.2) := by
  have hR : RM s s := RM_refl hI
  unfold F_X12_visit
  refine ok_b1 (T_X12_isGuest hR.1) (fun v_1 (hv_2 : QG v_1 a1 (s.1 89 112)) => ?_)
  refine ok_ite (fun h_3 => ?_) (fun h_4 => ?_)
  · have hc_5 := r_eq (rfl : (v_1).toInt = _) (by decide : (0 : Int32).toInt = 0) h_3
    unfold F_X12_visit_17
    exact ok_some ⟨trivial, hR⟩
  · have hc_6 := r_ne (rfl : (v_1).toInt = _) (by decide : (0 : Int32).toInt = 0) h_4
    have hk_7 := im_112 hR.1
    have hk_8 := im_115 hR.1
    have hf_9 := hv_2.2 h_4
    refine ok_b1 (T_X12_isIn hR.1) (fun v_10 (hv_11 : QI v_10 a2 (ci 0) (ci 1)) => ?_)
    refine ok_ite (fun h_12 => ?_) (fun h_13 => ?_)
    · have hc_14 := r_eq (rfl : (v_10).toInt = _) (by decide : (0 : Int32).toInt = 0) h_12
      unfold F_X12_visit_17
      exact ok_some ⟨trivial, hR⟩
    · have hc_15 := r_ne (rfl : (v_10).toInt = _) (by decide : (0 : Int32).toInt = 0) h_13
      have hf_16 := isin_f (a := a2) (by decide : (ci 0).toInt = 0) (by decide : (ci 1).toInt = 1) (hv_11.2 h_13)
      have hk_17 := im_1049 hR.1
      have hk_18 := im_118 hR.1
      refine ok_b2 (ok_rm2 (C := fun (v : Int64) => 0 ≤ v.toInt ∧ v.toInt ≤ 1000000) hR (T_X12_sureOf ⟨by omega, by omega⟩ hR.1)) (fun v_19 s_20 (hq : (0 ≤ v_19.toInt ∧ v_19.toInt ≤ 1000000) ∧ RM s s_20) => ?_)
      obtain ⟨hv_22, hs_21⟩ := hq
      unfold F_X12_visit_L34
      refine ok_whl (fun v => a1 = v.1 ∧ a2 = v.2.1 ∧ RM s v.2.2.2.2.2.2 ∧ 0 ≤ (v.2.2.2.2.2.1).toInt) (fun v => mUp v.2.2.2.2.2.1) ⟨rfl, rfl, hs_21, (show 0 ≤ (ci 0).toInt by rw [((by decide : (ci 0).toInt = 0) : (ci 0).toInt = 0)]; omega)⟩ (fun v hv => ?_)
      obtain ⟨x_28, x_29, x_30, x_31, x_32, x_33, s_34⟩ := v
      obtain ⟨rfl, rfl, rhs_35, rhn_36⟩ := hv
      have hs_35 : RM s s_34 := rhs_35
      have hn_36 : 0 ≤ x_33.toInt := rhn_36
      clear rhs_35 rhn_36
      show ok (F_X12_visit_B34 a1 a2 x_30 x_31 x_32 x_33 s_34) _
      unfold F_X12_visit_B34
      refine ok_ite (fun h_37 => ?_) (fun h_38 => ?_)
      · have hc_39 := r_le (by decide : (c8 23).toInt = 23) (rfl : (x_33).toInt = _) h_37
        refine ok_ite (fun h_40 => ?_) (fun h_41 => ?_)
        · have hc_42 := r_eq (rfl : (a2).toInt = _) (by decide : (0 : Int32).toInt = 0) h_40
          exact ok_some (lp_inr (⟨trivial, hs_35⟩))
        · have hc_43 := r_ne (rfl : (a2).toInt = _) (by decide : (0 : Int32).toInt = 0) h_41
          exact ok_some (lp_inr (⟨trivial, hs_35⟩))
      · have hc_44 := r_nle (by decide : (c8 23).toInt = 23) (rfl : (x_33).toInt = _) h_38
        refine ok_nn (ix_ok (r_add (by decide : (c8 27).toInt = 27) (rfl : (a1).toInt = _) (by omega) (by omega)) (by omega) (by omega)) ?_
        have hk_45 := im_112 hs_35.1
        have hk_46 := rm_k 89 112 hs_35 (by decide)
        refine ok_b2 (ok_rm2 (C := fun (v : Int32) => 0 ≤ v.toInt ∧ v.toInt ≤ 1000) hs_35 (T_X12_saysIn ⟨by omega, by omega⟩ hs_35.1)) (fun v_47 s_48 (hq : (0 ≤ v_47.toInt ∧ v_47.toInt ≤ 1000) ∧ RM s s_48) => ?_)
        obtain ⟨hv_50, hs_49⟩ := hq
        refine ok_nn (ix_ok (r_add (by decide : (c8 27).toInt = 27) (rfl : (a1).toInt = _) (by omega) (by omega)) (by omega) (by omega)) ?_
        have hk_51 := im_112 hs_49.1
        have hk_52 := rm_k 89 112 hs_49 (by decide)
        refine ok_b2 (ok_rm2 (C := fun (v : Int32) => 0 ≤ v.toInt ∧ v.toInt ≤ 1000) hs_49 (T_X12_saysIn ⟨by omega, by omega⟩ hs_49.1)) (fun v_53 s_54 (hq : (0 ≤ v_53.toInt ∧ v_53.toInt ≤ 1000) ∧ RM s s_54) => ?_)
        obtain ⟨hv_56, hs_55⟩ := hq
        extract_lets +onlyGivenNames v_57
        clear_value v_57
        refine ok_ite (fun h_58 => ?_) (fun h_59 => ?_)
        · unfold F_X12_visit_154
          exact ok_some (lp_inl ⟨rfl, rfl, hs_55, (up_0 (x := x_33) (by omega) (by omega))⟩ (up_t (x := x_33) (by omega)))
        · unfold F_X12_visit_154
          exact ok_some (lp_inl ⟨rfl, rfl, hs_55, (up_0 (x := x_33) (by omega) (by omega))⟩ (up_t (x := x_33) (by omega)))
theorem T_X12_movesIn {a1 : Int32} {s : mG} (hI : IM s) : ok (F_X12_movesIn a1 s) (fun τ => (True) ∧ RM s τ.2) := by
  have hR : RM s s := RM_refl hI
  unfold F_X12_movesIn
  unfold F_X12_movesIn_L4
  refine ok_whl (fun v => a1 = v.1 ∧ RM s v.2.2.2 ∧ 0 ≤ (v.2.2.1).toInt) (fun v => mUp v.2.2.1) ⟨rfl, hR, (show 0 ≤ (ci 0).toInt by rw [((by decide : (ci 0).toInt = 0) : (ci 0).toInt = 0)]; omega)⟩ (fun v hv => ?_)
  obtain ⟨x_5, x_6, x_7, s_8⟩ := v
  obtain ⟨rfl, rhs_9, rhn_10⟩ := hv
  have hs_9 : RM s s_8 := rhs_9
  have hn_10 : 0 ≤ x_7.toInt := rhn_10
  clear rhs_9 rhn_10
  show ok (F_X12_movesIn_B4 a1 x_6 x_7 s_8) _
  unfold F_X12_movesIn_B4
  refine ok_ite (fun h_11 => ?_) (fun h_12 => ?_)
  · have hk_13 := im_112 hs_9.1
    have hk_14 := rm_k 89 112 hs_9 (by decide)
    have hc_15 := r_le (rfl : (s_8.1 89 112).toInt = _) (rfl : (x_7).toInt = _) h_11
    exact ok_some (lp_inr (⟨trivial, hs_9⟩))
  · have hk_16 := im_112 hs_9.1
    have hk_17 := rm_k 89 112 hs_9 (by decide)
    have hc_18 := r_nle (rfl : (s_8.1 89 112).toInt = _) (rfl : (x_7).toInt = _) h_12
    refine ok_nn (ix_ok (r_add (by decide : (ci 3).toInt = 3) (rfl : (x_7).toInt = _) (by omega) (by omega)) (by omega) (by omega)) ?_
    refine ok_ite (fun h_19 => ?_) (fun h_20 => ?_)
    · unfold F_X12_movesIn_36
      refine ok_nn (ix_ok (r_add (by decide : (c8 27).toInt = 27) (rfl : (x_7).toInt = _) (by omega) (by omega)) (by omega) (by omega)) ?_
      have hk_21 := im_112 hR.1
      refine ok_b2 (ok_rm2 (C := fun (v : Int32) => 0 ≤ v.toInt ∧ v.toInt ≤ 1000) hs_9 (T_X12_saysIn ⟨by omega, by omega⟩ hs_9.1)) (fun v_22 s_23 (hq : (0 ≤ v_22.toInt ∧ v_22.toInt ≤ 1000) ∧ RM s s_23) => ?_)
      obtain ⟨hv_25, hs_24⟩ := hq
      exact ok_some (lp_inl ⟨rfl, hs_24, (up_0 (x := x_7) (by omega) (by omega))⟩ (up_t (x := x_7) (by omega)))
    · unfold F_X12_movesIn_36
      refine ok_nn (ix_ok (r_add (by decide : (c8 27).toInt = 27) (rfl : (x_7).toInt = _) (by omega) (by omega)) (by omega) (by omega)) ?_
      have hk_26 := im_112 hR.1
      refine ok_b2 (ok_rm2 (C := fun (v : Int32) => 0 ≤ v.toInt ∧ v.toInt ≤ 1000) hs_9 (T_X12_saysIn ⟨by omega, by omega⟩ hs_9.1)) (fun v_27 s_28 (hq : (0 ≤ v_27.toInt ∧ v_27.toInt ≤ 1000) ∧ RM s s_28) => ?_)
      obtain ⟨hv_30, hs_29⟩ := hq
      exact ok_some (lp_inl ⟨rfl, hs_29, (up_0 (x := x_7) (by omega) (by omega))⟩ (up_t (x := x_7) (by omega)))
theorem T_X12_expect {s : mG} (hI : IM s) : ok (F_X12_expect s) (fun τ => (True) ∧ RM s τ.2) := by
  have hR : RM s s := RM_refl hI
  unfold F_X12_expect
  refine ok_b2 (ok_rm2 (C := fun (v : Int32) => True) hR (T_X12_movesIn hR.1)) (fun v_1 s_2 (hq : (True) ∧ RM s s_2) => ?_)
  obtain ⟨hv_4, hs_3⟩ := hq
  exact ok_some ⟨trivial, hs_3⟩
theorem T_X12_busy {a1 : Int32} {s : mG} (hI : IM s) : ok (F_X12_busy a1 s) (fun τ => (True) ∧ RM s τ.2) := by
  have hR : RM s s := RM_refl hI
  unfold F_X12_busy
  refine ok_b1 (T_X12_isIn hR.1) (fun v_1 (hv_2 : QI v_1 a1 (ci 0) (ci 1)) => ?_)
  refine ok_ite (fun h_3 => ?_) (fun h_4 => ?_)
  · have hc_5 := r_eq (rfl : (v_1).toInt = _) (by decide : (0 : Int32).toInt = 0) h_3
    exact ok_some ⟨trivial, hR⟩
  · have hc_6 := r_ne (rfl : (v_1).toInt = _) (by decide : (0 : Int32).toInt = 0) h_4
    have hf_7 := isin_f (a := a1) (by decide : (ci 0).toInt = 0) (by decide : (ci 1).toInt = 1) (hv_2.2 h_4)
    extract_lets +onlyGivenNames v_8
    clear_value v_8
    unfold F_X12_busy_L29
    refine ok_whl (fun v => a1 = v.1 ∧ v_8 = v.2.1 ∧ RM s v.2.2.2.2 ∧ 0 ≤ (v.2.2.2.1).toInt) (fun v => mUp v.2.2.2.1) ⟨rfl, rfl, hR, (show 0 ≤ (ci 1).toInt by rw [((by decide : (ci 1).toInt = 1) : (ci 1).toInt = 1)]; omega)⟩ (fun v hv => ?_)
    obtain ⟨x_15, x_16, x_17, x_18, s_19⟩ := v
    obtain ⟨rfl, rfl, rhs_20, rhn_21⟩ := hv
    have hs_20 : RM s s_19 := rhs_20
    have hn_21 : 0 ≤ x_18.toInt := rhn_21
    clear rhs_20 rhn_21
    show ok (F_X12_busy_B29 a1 v_8 x_17 x_18 s_19) _
    unfold F_X12_busy_B29
    refine ok_ite (fun h_22 => ?_) (fun h_23 => ?_)
    · have hc_24 := r_le (by decide : (c8 24).toInt = 24) (rfl : (x_18).toInt = _) h_22
      refine ok_ite (fun h_25 => ?_) (fun h_26 => ?_)
      · have hc_27 := r_eq (rfl : (a1).toInt = _) (by decide : (0 : Int32).toInt = 0) h_25
        exact ok_some (lp_inr (⟨trivial, hs_20⟩))
      · have hc_28 := r_ne (rfl : (a1).toInt = _) (by decide : (0 : Int32).toInt = 0) h_26
        refine ok_b2 (ok_rm2 (C := fun (v : Int32) => True) hs_20 (T_X12_movesIn hs_20.1)) (fun v_29 s_30 (hq : (True) ∧ RM s s_30) => ?_)
        obtain ⟨hv_32, hs_31⟩ := hq
        exact ok_some (lp_inr (⟨trivial, hs_31⟩))
    · have hc_33 := r_nle (by decide : (c8 24).toInt = 24) (rfl : (x_18).toInt = _) h_23
      refine ok_b2 (ok_rm2 (C := fun (v : Int32) => True) hs_20 (T_X12_movesIn hs_20.1)) (fun v_34 s_35 (hq : (True) ∧ RM s s_35) => ?_)
      obtain ⟨hv_37, hs_36⟩ := hq
      refine ok_b2 (ok_rm2 (C := fun (v : Int32) => True) hs_36 (T_X12_movesIn hs_36.1)) (fun v_38 s_39 (hq : (True) ∧ RM s s_39) => ?_)
      obtain ⟨hv_41, hs_40⟩ := hq
      refine ok_ite (fun h_42 => ?_) (fun h_43 => ?_)
      · have hc_44 := r_le (rfl : (v_34).toInt = _) (rfl : (v_38).toInt = _) h_42
        unfold F_X12_busy_57
        exact ok_some (lp_inl ⟨rfl, rfl, hs_40, (up_0 (x := x_18) (by omega) (by omega))⟩ (up_t (x := x_18) (by omega)))
      · have hc_45 := ge_t h_43
        have hc_46 := r_nle (rfl : (v_34).toInt = _) (rfl : (v_38).toInt = _) h_43
        unfold F_X12_busy_57
        exact ok_some (lp_inl ⟨rfl, rfl, hs_40, (up_0 (x := x_18) (by omega) (by omega))⟩ (up_t (x := x_18) (by omega)))
theorem T_X12_lack {a1 : Int32} {s : mG} (hI : IM s) : ok (F_X12_lack a1 s) (fun τ => (True) ∧ RM s τ.2) := by
  have hR : RM s s := RM_refl hI
  unfold F_X12_lack
  refine ok_b1 (T_X12_isIn hR.1) (fun v_1 (hv_2 : QI v_1 a1 (ci 0) (ci 2)) => ?_)
  refine ok_ite (fun h_3 => ?_) (fun h_4 => ?_)
  · have hc_5 := r_eq (rfl : (v_1).toInt = _) (by decide : (0 : Int32).toInt = 0) h_3
    exact ok_some ⟨trivial, hR⟩
  · have hc_6 := r_ne (rfl : (v_1).toInt = _) (by decide : (0 : Int32).toInt = 0) h_4
    have hf_7 := isin_f (a := a1) (by decide : (ci 0).toInt = 0) (by decide : (ci 2).toInt = 2) (hv_2.2 h_4)
    unfold F_X12_lack_L21
    refine ok_whl (fun v => a1 = v.1 ∧ RM s v.2.2.2.2.2 ∧ 0 ≤ (v.2.2.2.2.1).toInt) (fun v => mUp v.2.2.2.2.1) ⟨rfl, hR, (show 0 ≤ (ci 0).toInt by rw [((by decide : (ci 0).toInt = 0) : (ci 0).toInt = 0)]; omega)⟩ (fun v hv => ?_)
    obtain ⟨x_13, x_14, x_15, x_16, x_17, s_18⟩ := v
    obtain ⟨rfl, rhs_19, rhn_20⟩ := hv
    have hs_19 : RM s s_18 := rhs_19
    have hn_20 : 0 ≤ x_17.toInt := rhn_20
    clear rhs_19 rhn_20
    show ok (F_X12_lack_B21 a1 x_14 x_15 x_16 x_17 s_18) _
    unfold F_X12_lack_B21
    refine ok_ite (fun h_21 => ?_) (fun h_22 => ?_)
    · have hk_23 := im_112 hs_19.1
      have hk_24 := rm_k 89 112 hs_19 (by decide)
      have hc_25 := r_le (rfl : (s_18.1 89 112).toInt = _) (rfl : (x_17).toInt = _) h_21
      refine ok_ite (fun h_26 => ?_) (fun h_27 => ?_)
      · have hc_28 := r_eq (rfl : (a1).toInt = _) (by decide : (0 : Int32).toInt = 0) h_26
        exact ok_some (lp_inr (⟨trivial, hs_19⟩))
      · have hc_29 := r_ne (rfl : (a1).toInt = _) (by decide : (0 : Int32).toInt = 0) h_27
        refine ok_ite (fun h_30 => ?_) (fun h_31 => ?_)
        · have hc_32 := r_eq (rfl : (a1).toInt = _) (by decide : (ci 1).toInt = 1) h_30
          extract_lets +onlyGivenNames v_33
          clear_value v_33
          exact ok_some (lp_inr (⟨trivial, hs_19⟩))
        · have hc_34 := r_ne (rfl : (a1).toInt = _) (by decide : (ci 1).toInt = 1) h_31
          exact ok_some (lp_inr (⟨trivial, hs_19⟩))
    · have hk_35 := im_112 hs_19.1
      have hk_36 := rm_k 89 112 hs_19 (by decide)
      have hc_37 := r_nle (rfl : (s_18.1 89 112).toInt = _) (rfl : (x_17).toInt = _) h_22
      refine ok_nn (ix_ok (r_add (by decide : (c8 15).toInt = 15) (rfl : (x_17).toInt = _) (by omega) (by omega)) (by omega) (by omega)) ?_
      refine ok_ite (fun h_38 => ?_) (fun h_39 => ?_)
      · refine ok_nn (ix_ok (r_add (by decide : (ci 3).toInt = 3) (rfl : (x_17).toInt = _) (by omega) (by omega)) (by omega) (by omega)) ?_
        extract_lets +onlyGivenNames v_40
        clear_value v_40
        have hk_41 := im_112 hR.1
        have hk_42 := im_1049 hs_19.1
        have hk_43 := rm_k 89 1049 hs_19 (by decide)
        have hk_44 := im_1049 hR.1
        have hk_45 := im_118 hs_19.1
        have hk_46 := rm_k 89 118 hs_19 (by decide)
        have hk_47 := im_118 hR.1
        refine ok_b2 (ok_rm2 (C := fun (v : Int64) => 0 ≤ v.toInt ∧ v.toInt ≤ 1000000) hs_19 (T_X12_sureOf ⟨by omega, by omega⟩ hs_19.1)) (fun v_48 s_49 (hq : (0 ≤ v_48.toInt ∧ v_48.toInt ≤ 1000000) ∧ RM s s_49) => ?_)
        obtain ⟨hv_51, hs_50⟩ := hq
        extract_lets +onlyGivenNames v_52
        clear_value v_52
        unfold F_X12_lack_80
        exact ok_some (lp_inl ⟨rfl, hs_50, (up_0 (x := x_17) (by omega) (by omega))⟩ (up_t (x := x_17) (by omega)))
      · unfold F_X12_lack_80
        exact ok_some (lp_inl ⟨rfl, hs_19, (up_0 (x := x_17) (by omega) (by omega))⟩ (up_t (x := x_17) (by omega)))
theorem T_X12_empty {a1 : Int32} {s : mG} (hI : IM s) : ok (F_X12_empty a1 s) (fun τ => (True) ∧ RM s τ.2) := by
  have hR : RM s s := RM_refl hI
  unfold F_X12_empty
  refine ok_b1 (T_X12_isIn hR.1) (fun v_1 (hv_2 : QI v_1 a1 (ci 0) (ci 3)) => ?_)
  refine ok_ite (fun h_3 => ?_) (fun h_4 => ?_)
  · have hc_5 := r_eq (rfl : (v_1).toInt = _) (by decide : (0 : Int32).toInt = 0) h_3
    exact ok_some ⟨trivial, hR⟩
  · have hc_6 := r_ne (rfl : (v_1).toInt = _) (by decide : (0 : Int32).toInt = 0) h_4
    have hf_7 := isin_f (a := a1) (by decide : (ci 0).toInt = 0) (by decide : (ci 3).toInt = 3) (hv_2.2 h_4)
    unfold F_X12_empty_L18
    refine ok_whl (fun v => a1 = v.1 ∧ RM s v.2.2.2 ∧ 0 ≤ (v.2.2.1).toInt) (fun v => mUp v.2.2.1) ⟨rfl, hR, (show 0 ≤ (ci 0).toInt by rw [((by decide : (ci 0).toInt = 0) : (ci 0).toInt = 0)]; omega)⟩ (fun v hv => ?_)
    obtain ⟨x_10, x_11, x_12, s_13⟩ := v
    obtain ⟨rfl, rhs_14, rhn_15⟩ := hv
    have hs_14 : RM s s_13 := rhs_14
    have hn_15 : 0 ≤ x_12.toInt := rhn_15
    clear rhs_14 rhn_15
    show ok (F_X12_empty_B18 a1 x_11 x_12 s_13) _
    unfold F_X12_empty_B18
    refine ok_ite (fun h_16 => ?_) (fun h_17 => ?_)
    · have hk_18 := im_112 hs_14.1
      have hk_19 := rm_k 89 112 hs_14 (by decide)
      have hc_20 := r_le (rfl : (s_13.1 89 112).toInt = _) (rfl : (x_12).toInt = _) h_16
      exact ok_some (lp_inr (⟨trivial, hs_14⟩))
    · have hk_21 := im_112 hs_14.1
      have hk_22 := rm_k 89 112 hs_14 (by decide)
      have hc_23 := r_nle (rfl : (s_13.1 89 112).toInt = _) (rfl : (x_12).toInt = _) h_17
      refine ok_nn (ix_ok (r_add (by decide : (c8 119).toInt = 119) (rfl : (x_12).toInt = _) (by omega) (by omega)) (by omega) (by omega)) ?_
      refine ok_ite (fun h_24 => ?_) (fun h_25 => ?_)
      · have hk_26 := im_112 hR.1
        have hk_27 := im_1049 hs_14.1
        have hk_28 := rm_k 89 1049 hs_14 (by decide)
        have hk_29 := im_1049 hR.1
        have hk_30 := im_118 hs_14.1
        have hk_31 := rm_k 89 118 hs_14 (by decide)
        have hk_32 := im_118 hR.1
        refine ok_b2 (ok_rm2 (C := fun (v : Int64) => 0 ≤ v.toInt ∧ v.toInt ≤ 1000000) hs_14 (T_X12_sureOf ⟨by omega, by omega⟩ hs_14.1)) (fun v_33 s_34 (hq : (0 ≤ v_33.toInt ∧ v_33.toInt ≤ 1000000) ∧ RM s s_34) => ?_)
        obtain ⟨hv_36, hs_35⟩ := hq
        unfold F_X12_empty_64
        exact ok_some (lp_inl ⟨rfl, hs_35, (up_0 (x := x_12) (by omega) (by omega))⟩ (up_t (x := x_12) (by omega)))
      · unfold F_X12_empty_64
        exact ok_some (lp_inl ⟨rfl, hs_14, (up_0 (x := x_12) (by omega) (by omega))⟩ (up_t (x := x_12) (by omega)))
end
end
/-! 57.h -/
section
noncomputable section
theorem T_X12_thief {s : mG} (hI : IM s) : ok (F_X12_thief s) (fun (v : Int32) => True) := by
  have hR : RM s s := RM_refl hI
  unfold F_X12_thief
  unfold F_X12_thief_L4
  refine ok_whl (fun v => 0 ≤ (v.2).toInt ∧ (-1 ≤ (v.1).toInt ∧ (v.1).toInt < 12)) (fun v => mUp v.2) ⟨(show 0 ≤ (ci 0).toInt by rw [((by decide : (ci 0).toInt = 0) : (ci 0).toInt = 0)]; omega), (show -1 ≤ (ci (-1)).toInt ∧ (ci (-1)).toInt < 12 by rw [((by decide : (ci (-1)).toInt = (-1)) : (ci (-1)).toInt = (-1))]; exact ⟨by omega, by omega⟩)⟩ (fun v hv => ?_)
  obtain ⟨x_1, x_2⟩ := v
  obtain ⟨rhn_3, rhn_4⟩ := hv
  have hn_3 : 0 ≤ x_2.toInt := rhn_3
  have hn_4 : -1 ≤ (x_1).toInt ∧ (x_1).toInt < 12 := rhn_4
  clear rhn_3 rhn_4
  show ok (F_X12_thief_B4 s x_1 x_2) _
  unfold F_X12_thief_B4
  refine ok_ite (fun h_5 => ?_) (fun h_6 => ?_)
  · have hk_7 := im_112 hR.1
    have hc_8 := r_le (rfl : (s.1 89 112).toInt = _) (rfl : (x_2).toInt = _) h_5
    exact ok_some (lp_inr (trivial))
  · have hk_9 := im_112 hR.1
    have hc_10 := r_nle (rfl : (s.1 89 112).toInt = _) (rfl : (x_2).toInt = _) h_6
    refine ok_nn (ix_ok (r_add (by decide : (c8 15).toInt = 15) (rfl : (x_2).toInt = _) (by omega) (by omega)) (by omega) (by omega)) ?_
    refine ok_ite (fun h_11 => ?_) (fun h_12 => ?_)
    · refine ok_nn (ix_ok (r_add (by decide : (ci 3).toInt = 3) (rfl : (x_2).toInt = _) (by omega) (by omega)) (by omega) (by omega)) ?_
      refine ok_ite (fun h_13 => ?_) (fun h_14 => ?_)
      · refine ok_ite (fun h_15 => ?_) (fun h_16 => ?_)
        · have hc_17 := r_eq (rfl : (x_1).toInt = _) (by decide : (ci (-1)).toInt = (-1)) h_15
          unfold F_X12_thief_66
          unfold F_X12_thief_68
          exact ok_some (lp_inl ⟨(up_0 (x := x_2) (by omega) (by omega)), (show -1 ≤ (x_2).toInt ∧ (x_2).toInt < 12 from ⟨by omega, by omega⟩)⟩ (up_t (x := x_2) (by omega)))
        · have hc_18 := r_ne (rfl : (x_1).toInt = _) (by decide : (ci (-1)).toInt = (-1)) h_16
          refine ok_nn (ix_ok (r_add (by decide : (c8 27).toInt = 27) (rfl : (x_2).toInt = _) (by omega) (by omega)) (by omega) (by omega)) ?_
          refine ok_nn (ix_ok (r_add (by decide : (c8 27).toInt = 27) (rfl : (x_1).toInt = _) (by omega) (by omega)) (by omega) (by omega)) ?_
          refine ok_ite (fun h_19 => ?_) (fun h_20 => ?_)
          · unfold F_X12_thief_68
            exact ok_some (lp_inl ⟨(up_0 (x := x_2) (by omega) (by omega)), (show -1 ≤ (x_1).toInt ∧ (x_1).toInt < 12 from ⟨by omega, by omega⟩)⟩ (up_t (x := x_2) (by omega)))
          · unfold F_X12_thief_66
            unfold F_X12_thief_68
            exact ok_some (lp_inl ⟨(up_0 (x := x_2) (by omega) (by omega)), (show -1 ≤ (x_2).toInt ∧ (x_2).toInt < 12 from ⟨by omega, by omega⟩)⟩ (up_t (x := x_2) (by omega)))
      · unfold F_X12_thief_68
        exact ok_some (lp_inl ⟨(up_0 (x := x_2) (by omega) (by omega)), (show -1 ≤ (x_1).toInt ∧ (x_1).toInt < 12 from ⟨by omega, by omega⟩)⟩ (up_t (x := x_2) (by omega)))
    · unfold F_X12_thief_68
      exact ok_some (lp_inl ⟨(up_0 (x := x_2) (by omega) (by omega)), (show -1 ≤ (x_1).toInt ∧ (x_1).toInt < 12 from ⟨by omega, by omega⟩)⟩ (up_t (x := x_2) (by omega)))
theorem T_X12_ofRoom {s : mG} {a1 : Int32} {a2 : Int32} (h_a1 : 0 ≤ a1.toInt ∧ a1.toInt < 8) (h_a2 : 0 ≤ a2.toInt ∧ a2.toInt < 4) (hI : IM s) : ok (F_X12_ofRoom s a1 a2) (fun (v : Int32) => v = s.1 89 (((c16 203) + ((ci 4) * a1)) + a2).toNatClampNeg) := by
  have hR : RM s s := RM_refl hI
  unfold F_X12_ofRoom
  refine ok_nn (ix_ok (r_add (r_add (by decide : (c16 203).toInt = 203) (r_mul (by decide : (ci 4).toInt = 4) (rfl : (a1).toInt = _) (by omega) (by omega)) (by omega) (by omega)) (rfl : (a2).toInt = _) (by omega) (by omega)) (by omega) (by omega)) ?_
  exact ok_some rfl
theorem T_X12_isKnockedAhead {a1 : Int32} {a2 : Int32} {s : mG} (h_a1 : 0 ≤ a1.toInt ∧ a1.toInt < (s.1 89 118).toInt) (h_a2 : 0 ≤ a2.toInt ∧ a2.toInt < (s.1 89 118).toInt) (hI : IM s) : ok (F_X12_isKnockedAhead a1 a2 s) (fun τ => (PB τ.1) ∧ RM s τ.2) := by
  have hR : RM s s := RM_refl hI
  unfold F_X12_isKnockedAhead
  have hk_1 := im_118 hR.1
  refine ok_b1 (T_X12_ofRoom ⟨by omega, by omega⟩ ⟨by decide, by decide⟩ hR.1) (fun v_2 (hv_3 : v_2 = s.1 89 (((c16 203) + ((ci 4) * a1)) + (ci 0)).toNatClampNeg) => ?_)
  have hk_4 := im_112 hR.1
  have hk_5 := im_1049 hR.1
  refine ok_b2 (ok_rm2 (C := fun (v : Int64) => 0 ≤ v.toInt ∧ v.toInt ≤ 1000000) hR (T_X12_sureOf (by rw [hv_3]; exact im_room hR.1 (by omega) (by omega)) hR.1)) (fun v_6 s_7 (hq : (0 ≤ v_6.toInt ∧ v_6.toInt ≤ 1000000) ∧ RM s s_7) => ?_)
  obtain ⟨hv_9, hs_8⟩ := hq
  have hk_10 := im_118 hs_8.1
  have hk_11 := rm_k 89 118 hs_8 (by decide)
  refine ok_b1 (T_X12_ofRoom ⟨by omega, by omega⟩ ⟨by decide, by decide⟩ hs_8.1) (fun v_12 (hv_13 : v_12 = s_7.1 89 (((c16 203) + ((ci 4) * a2)) + (ci 0)).toNatClampNeg) => ?_)
  have hk_14 := im_112 hs_8.1
  have hk_15 := rm_k 89 112 hs_8 (by decide)
  have hk_16 := im_1049 hs_8.1
  have hk_17 := rm_k 89 1049 hs_8 (by decide)
  refine ok_b2 (ok_rm2 (C := fun (v : Int64) => 0 ≤ v.toInt ∧ v.toInt ≤ 1000000) hs_8 (T_X12_sureOf (by rw [hv_13]; exact im_room hs_8.1 (by omega) (by omega)) hs_8.1)) (fun v_18 s_19 (hq : (0 ≤ v_18.toInt ∧ v_18.toInt ≤ 1000000) ∧ RM s s_19) => ?_)
  obtain ⟨hv_21, hs_20⟩ := hq
  refine ok_ite (fun h_22 => ?_) (fun h_23 => ?_)
  · unfold F_X12_isKnockedAhead_42
    exact ok_some ⟨pb1, hs_20⟩
  · refine ok_ite (fun h_24 => ?_) (fun h_25 => ?_)
    · refine ok_ite (fun h_26 => ?_) (fun h_27 => ?_)
      · have hc_28 := r_le (rfl : (a2).toInt = _) (rfl : (a1).toInt = _) h_26
        unfold F_X12_isKnockedAhead_46
        exact ok_some ⟨pb0, hs_20⟩
      · have hc_29 := ge_t h_27
        have hc_30 := r_nle (rfl : (a2).toInt = _) (rfl : (a1).toInt = _) h_27
        unfold F_X12_isKnockedAhead_42
        exact ok_some ⟨pb1, hs_20⟩
    · unfold F_X12_isKnockedAhead_46
      exact ok_some ⟨pb0, hs_20⟩
theorem T_X12_knocks {a1 : Int32} {s : mG} (hI : IM s) : ok (F_X12_knocks a1 s) (fun τ => (True) ∧ RM s τ.2) := by
  have hR : RM s s := RM_refl hI
  unfold F_X12_knocks
  unfold F_X12_knocks_L2
  refine ok_whl (fun v => a1 = v.1 ∧ RM s v.2.2 ∧ 0 ≤ (v.2.1).toInt) (fun v => mUp v.2.1) ⟨rfl, hR, (show 0 ≤ (ci 0).toInt by rw [((by decide : (ci 0).toInt = 0) : (ci 0).toInt = 0)]; omega)⟩ (fun v hv => ?_)
  obtain ⟨x_8, x_9, s_10⟩ := v
  obtain ⟨rfl, rhs_11, rhn_12⟩ := hv
  have hs_11 : RM s s_10 := rhs_11
  have hn_12 : 0 ≤ x_9.toInt := rhn_12
  clear rhs_11 rhn_12
  show ok (F_X12_knocks_B2 a1 x_9 s_10) _
  unfold F_X12_knocks_B2
  refine ok_ite (fun h_13 => ?_) (fun h_14 => ?_)
  · have hk_15 := im_118 hs_11.1
    have hk_16 := rm_k 89 118 hs_11 (by decide)
    have hc_17 := r_le (rfl : (s_10.1 89 118).toInt = _) (rfl : (x_9).toInt = _) h_13
    exact ok_some (lp_inr (⟨trivial, hs_11⟩))
  · have hk_18 := im_118 hs_11.1
    have hk_19 := rm_k 89 118 hs_11 (by decide)
    have hc_20 := r_nle (rfl : (s_10.1 89 118).toInt = _) (rfl : (x_9).toInt = _) h_14
    unfold F_X12_knocks_L18
    refine ok_whl (fun v => a1 = v.1 ∧ x_9 = v.2.1 ∧ RM s v.2.2.2.2 ∧ 0 ≤ (v.2.2.2.1).toInt) (fun v => mUp v.2.2.2.1) ⟨rfl, rfl, hs_11, (show 0 ≤ (ci 0).toInt by rw [((by decide : (ci 0).toInt = 0) : (ci 0).toInt = 0)]; omega)⟩ (fun v hv => ?_)
    obtain ⟨x_21, x_22, x_23, x_24, s_25⟩ := v
    obtain ⟨rfl, rfl, rhs_26, rhn_27⟩ := hv
    have hs_26 : RM s s_25 := rhs_26
    have hn_27 : 0 ≤ x_24.toInt := rhn_27
    clear rhs_26 rhn_27
    show ok (F_X12_knocks_B18 a1 x_9 x_23 x_24 s_25) _
    unfold F_X12_knocks_B18
    refine ok_ite (fun h_28 => ?_) (fun h_29 => ?_)
    · have hk_30 := im_118 hs_26.1
      have hk_31 := rm_k 89 118 hs_26 (by decide)
      have hc_32 := r_le (rfl : (s_25.1 89 118).toInt = _) (rfl : (x_24).toInt = _) h_28
      refine ok_ite (fun h_33 => ?_) (fun h_34 => ?_)
      · have hc_35 := r_eq (rfl : (x_23).toInt = _) (rfl : (a1).toInt = _) h_33
        exact ok_some (lp_inr (lp_inr (⟨trivial, hs_26⟩)))
      · have hc_36 := r_ne (rfl : (x_23).toInt = _) (rfl : (a1).toInt = _) h_34
        exact ok_some (lp_inr (lp_inl ⟨rfl, hs_26, (up_0 (x := x_9) (by omega) (by omega))⟩ (up_t (x := x_9) (by omega))))
    · have hk_37 := im_118 hs_26.1
      have hk_38 := rm_k 89 118 hs_26 (by decide)
      have hc_39 := r_nle (rfl : (s_25.1 89 118).toInt = _) (rfl : (x_24).toInt = _) h_29
      refine ok_ite (fun h_40 => ?_) (fun h_41 => ?_)
      · have hc_42 := r_eq (rfl : (x_24).toInt = _) (rfl : (x_9).toInt = _) h_40
        unfold F_X12_knocks_51
        unfold F_X12_knocks_52
        exact ok_some (lp_inl ⟨rfl, rfl, hs_26, (up_0 (x := x_24) (by omega) (by omega))⟩ (up_t (x := x_24) (by omega)))
      · have hc_43 := r_ne (rfl : (x_24).toInt = _) (rfl : (x_9).toInt = _) h_41
        have hk_44 := im_118 hR.1
        refine ok_b2 (ok_rm2 (C := fun (v : Int32) => PB v) hs_26 (T_X12_isKnockedAhead ⟨by omega, by omega⟩ ⟨by omega, by omega⟩ hs_26.1)) (fun v_45 s_46 (hq : (PB v_45) ∧ RM s s_46) => ?_)
        obtain ⟨hv_48, hs_47⟩ := hq
        refine ok_ite (fun h_49 => ?_) (fun h_50 => ?_)
        · have hc_51 := r_eq (rfl : (v_45).toInt = _) (by decide : (0 : Int32).toInt = 0) h_49
          unfold F_X12_knocks_51
          unfold F_X12_knocks_52
          exact ok_some (lp_inl ⟨rfl, rfl, hs_47, (up_0 (x := x_24) (by omega) (by omega))⟩ (up_t (x := x_24) (by omega)))
        · have hc_52 := r_ne (rfl : (v_45).toInt = _) (by decide : (0 : Int32).toInt = 0) h_50
          unfold F_X12_knocks_52
          exact ok_some (lp_inl ⟨rfl, rfl, hs_47, (up_0 (x := x_24) (by omega) (by omega))⟩ (up_t (x := x_24) (by omega)))
theorem T_X12_canDo {s : mG} {a1 : Int32} (hI : IM s) : ok (F_X12_canDo s a1) (fun (v : Int32) => PB v) := by
  have hR : RM s s := RM_refl hI
  unfold F_X12_canDo
  unfold F_X12_canDo_L2
  refine ok_whl (fun v => a1 = v.1 ∧ 0 ≤ (v.2).toInt) (fun v => mUp v.2) ⟨rfl, (show 0 ≤ (ci 0).toInt by rw [((by decide : (ci 0).toInt = 0) : (ci 0).toInt = 0)]; omega)⟩ (fun v hv => ?_)
  obtain ⟨x_11, x_12⟩ := v
  obtain ⟨rfl, rhn_13⟩ := hv
  have hn_13 : 0 ≤ x_12.toInt := rhn_13
  clear rhn_13
  show ok (F_X12_canDo_B2 s a1 x_12) _
  unfold F_X12_canDo_B2
  refine ok_ite (fun h_14 => ?_) (fun h_15 => ?_)
  · have hk_16 := im_118 hR.1
    have hc_17 := r_le (rfl : (s.1 89 118).toInt = _) (rfl : (x_12).toInt = _) h_14
    exact ok_some (lp_inr (pb1))
  · have hk_18 := im_118 hR.1
    have hc_19 := r_nle (rfl : (s.1 89 118).toInt = _) (rfl : (x_12).toInt = _) h_15
    refine ok_ite (fun h_20 => ?_) (fun h_21 => ?_)
    · unfold F_X12_canDo_99
      exact ok_some (lp_inl ⟨rfl, (up_0 (x := x_12) (by omega) (by omega))⟩ (up_t (x := x_12) (by omega)))
    · unfold F_X12_canDo_L29
      refine ok_whl (fun v => a1 = v.1 ∧ x_12 = v.2.1 ∧ 0 ≤ (v.2.2.2).toInt) (fun v => mUp v.2.2.2) ⟨rfl, rfl, (show 0 ≤ (ci 0).toInt by rw [((by decide : (ci 0).toInt = 0) : (ci 0).toInt = 0)]; omega)⟩ (fun v hv => ?_)
      obtain ⟨x_22, x_23, x_24, x_25⟩ := v
      obtain ⟨rfl, rfl, rhn_26⟩ := hv
      have hn_26 : 0 ≤ x_25.toInt := rhn_26
      clear rhn_26
      show ok (F_X12_canDo_B29 s a1 x_12 x_24 x_25) _
      unfold F_X12_canDo_B29
      refine ok_ite (fun h_27 => ?_) (fun h_28 => ?_)
      · have hc_29 := r_le (rfl : (s.1 89 118).toInt = _) (rfl : (x_25).toInt = _) h_27
        refine ok_b1 (T_X12_ofRoom ⟨by omega, by omega⟩ ⟨by decide, by decide⟩ hR.1) (fun v_30 (hv_31 : v_30 = s.1 89 (((c16 203) + ((ci 4) * x_12)) + (ci 2)).toNatClampNeg) => ?_)
        refine ok_ite (fun h_32 => ?_) (fun h_33 => ?_)
        · have hc_34 := r_le (rfl : (x_24).toInt = _) (rfl : (v_30).toInt = _) h_32
          refine ok_b1r ?_
          unfold F_X12_canDo_99
          exact ok_some (lp_inl ⟨rfl, (up_0 (x := x_12) (by omega) (by omega))⟩ (up_t (x := x_12) (by omega)))
        · have hc_35 := ge_t h_33
          have hc_36 := r_nle (rfl : (x_24).toInt = _) (rfl : (v_30).toInt = _) h_33
          exact ok_some (lp_inr (lp_inr (pb0)))
      · have hc_37 := r_nle (rfl : (s.1 89 118).toInt = _) (rfl : (x_25).toInt = _) h_28
        refine ok_ite (fun h_38 => ?_) (fun h_39 => ?_)
        · refine ok_b1 (T_X12_ofRoom ⟨by omega, by omega⟩ ⟨by decide, by decide⟩ hR.1) (fun v_40 (hv_41 : v_40 = s.1 89 (((c16 203) + ((ci 4) * x_25)) + (ci 2)).toNatClampNeg) => ?_)
          refine ok_b1 (T_X12_ofRoom ⟨by omega, by omega⟩ ⟨by decide, by decide⟩ hR.1) (fun v_42 (hv_43 : v_42 = s.1 89 (((c16 203) + ((ci 4) * x_12)) + (ci 2)).toNatClampNeg) => ?_)
          refine ok_ite (fun h_44 => ?_) (fun h_45 => ?_)
          · have hc_46 := r_lt (rfl : (v_42).toInt = _) (rfl : (v_40).toInt = _) h_44
            unfold F_X12_canDo_78
            unfold F_X12_canDo_79
            exact ok_some (lp_inl ⟨rfl, rfl, (up_0 (x := x_25) (by omega) (by omega))⟩ (up_t (x := x_25) (by omega)))
          · have hc_47 := r_nlt (rfl : (v_42).toInt = _) (rfl : (v_40).toInt = _) h_45
            refine ok_b1 (T_X12_ofRoom ⟨by omega, by omega⟩ ⟨by decide, by decide⟩ hR.1) (fun v_48 (hv_49 : v_48 = s.1 89 (((c16 203) + ((ci 4) * x_25)) + (ci 1)).toNatClampNeg) => ?_)
            unfold F_X12_canDo_79
            exact ok_some (lp_inl ⟨rfl, rfl, (up_0 (x := x_25) (by omega) (by omega))⟩ (up_t (x := x_25) (by omega)))
        · unfold F_X12_canDo_78
          unfold F_X12_canDo_79
          exact ok_some (lp_inl ⟨rfl, rfl, (up_0 (x := x_25) (by omega) (by omega))⟩ (up_t (x := x_25) (by omega)))
theorem T_X12_worthOfSet {s : mG} {a1 : Int32} (hI : IM s) : ok (F_X12_worthOfSet s a1) (fun (v : Int32) => True) := by
  have hR : RM s s := RM_refl hI
  unfold F_X12_worthOfSet
  unfold F_X12_worthOfSet_L4
  refine ok_whl (fun v => a1 = v.1 ∧ 0 ≤ (v.2.2).toInt) (fun v => mUp v.2.2) ⟨rfl, (show 0 ≤ (ci 0).toInt by rw [((by decide : (ci 0).toInt = 0) : (ci 0).toInt = 0)]; omega)⟩ (fun v hv => ?_)
  obtain ⟨x_2, x_3, x_4⟩ := v
  obtain ⟨rfl, rhn_5⟩ := hv
  have hn_5 : 0 ≤ x_4.toInt := rhn_5
  clear rhn_5
  show ok (F_X12_worthOfSet_B4 s a1 x_3 x_4) _
  unfold F_X12_worthOfSet_B4
  refine ok_ite (fun h_6 => ?_) (fun h_7 => ?_)
  · have hk_8 := im_118 hR.1
    have hc_9 := r_le (rfl : (s.1 89 118).toInt = _) (rfl : (x_4).toInt = _) h_6
    exact ok_some (lp_inr (trivial))
  · have hk_10 := im_118 hR.1
    have hc_11 := r_nle (rfl : (s.1 89 118).toInt = _) (rfl : (x_4).toInt = _) h_7
    refine ok_ite (fun h_12 => ?_) (fun h_13 => ?_)
    · refine ok_b1 (T_X12_ofRoom ⟨by omega, by omega⟩ ⟨by decide, by decide⟩ hR.1) (fun v_14 (hv_15 : v_14 = s.1 89 (((c16 203) + ((ci 4) * x_4)) + (ci 3)).toNatClampNeg) => ?_)
      unfold F_X12_worthOfSet_35
      exact ok_some (lp_inl ⟨rfl, (up_0 (x := x_4) (by omega) (by omega))⟩ (up_t (x := x_4) (by omega)))
    · unfold F_X12_worthOfSet_35
      exact ok_some (lp_inl ⟨rfl, (up_0 (x := x_4) (by omega) (by omega))⟩ (up_t (x := x_4) (by omega)))
end
end
