/-! AN ANSWER COMES, AND WHAT HOLDS OF IT -/
def ok {α : Type} (o : Option α) (Q : α → Prop) : Prop := ∃ a, o = some a ∧ Q a
def PT {α : Type} : α → Prop := fun _ => True
def PB (v : Int32) : Prop := v = 0 ∨ v = 1
theorem pb0 : PB (ci 0) := Or.inl (by decide)
theorem pb1 : PB (ci 1) := Or.inr (by decide)
theorem ok_some {α : Type} {a : α} {Q : α → Prop} (h : Q a) : ok (some a) Q := ⟨a, rfl, h⟩
theorem ok_mono {α : Type} {o : Option α} {P Q : α → Prop} (h : ok o P) (k : ∀ a, P a → Q a) : ok o Q := by
  obtain ⟨a, h1, h2⟩ := h
  exact ⟨a, h1, k a h2⟩
theorem ok_ite {c : Prop} [Decidable c] {α : Type} {x y : Option α} {Q : α → Prop} (h1 : c → ok x Q) (h2 : ¬ c → ok y Q) : ok (if c then x else y) Q := by
  by_cases h : c
  · rw [if_pos h]; exact h1 h
  · rw [if_neg h]; exact h2 h
theorem ok_nn {c : Prop} [Decidable c] {α : Type} {y : Option α} {Q : α → Prop} (h : ¬ c) (k : ok y Q) : ok (if c then none else y) Q := by
  rw [if_neg h]; exact k
theorem ok_pp {c : Prop} [Decidable c] {α : Type} {y : Option α} {Q : α → Prop} (h : c) (k : ok y Q) : ok (if c then y else none) Q := by
  rw [if_pos h]; exact k
theorem ok_b1 {α γ : Type} {o : Option α} {f : α → Option γ} {P : α → Prop} {Q : γ → Prop} (h : ok o P) (k : ∀ a, P a → ok (f a) Q) : ok (b1 o f) Q := by
  obtain ⟨a, h1, h2⟩ := h
  rw [h1]; exact k a h2
theorem ok_b2 {α β γ : Type} {o : Option (α × β)} {f : α → β → Option γ} {P : α × β → Prop} {Q : γ → Prop} (h : ok o P) (k : ∀ a b, P (a, b) → ok (f a b) Q) : ok (b2 o f) Q := by
  obtain ⟨a, h1, h2⟩ := h
  rw [h1]; exact k a.1 a.2 h2
theorem ok_bo {α γ : Type} {o : Option (Option α)} {f0 : Option γ} {f1 : α → Option γ} {P : Option α → Prop} {Q : γ → Prop} (h : ok o P) (k0 : P none → ok f0 Q) (k1 : ∀ a, P (some a) → ok (f1 a) Q) : ok (bo o f0 f1) Q := by
  obtain ⟨a, h1, h2⟩ := h
  rw [h1]
  cases a with
  | none => exact k0 h2
  | some a => exact k1 a h2
def lpost {σ ρ : Type} (P : σ → Prop) (μ : σ → Nat) (n : Nat) (Q : ρ → Prop) : σ ⊕ ρ → Prop
  | .inl v => P v ∧ μ v < n
  | .inr a => Q a
theorem lp_inl {σ ρ : Type} {P : σ → Prop} {μ : σ → Nat} {n : Nat} {Q : ρ → Prop} {v : σ} (h : P v) (h2 : μ v < n) : lpost P μ n Q (.inl v) := ⟨h, h2⟩
theorem lp_inr {σ ρ : Type} {P : σ → Prop} {μ : σ → Nat} {n : Nat} {Q : ρ → Prop} {a : ρ} (h : Q a) : lpost P μ n Q (.inr a) := h
theorem ok_b1r {σ ρ : Type} {o : Option ρ} {P : σ → Prop} {μ : σ → Nat} {n : Nat} {Q : ρ → Prop} (h : ok o Q) : ok (b1 o fun τ => some (Sum.inr τ)) (lpost P μ n Q) := ok_b1 h fun _ hq => ok_some (lp_inr hq)
theorem ok_b1rr {σ ρ σ' : Type} {o : Option ρ} {P : σ → Prop} {μ : σ → Nat} {n : Nat} {P' : σ' → Prop} {μ' : σ' → Nat} {n' : Nat} {Q : ρ → Prop} (h : ok o Q) : ok (b1 o fun τ => some (Sum.inr (Sum.inr τ))) (lpost P μ n (lpost P' μ' n' Q)) := ok_b1 h fun _ hq => ok_some (lp_inr (lp_inr hq))
theorem ok_whl {σ ρ : Type} {body : σ → Option (σ ⊕ ρ)} (P : σ → Prop) (μ : σ → Nat) {Q : ρ → Prop} {v : σ} (hv : P v) (hb : ∀ v, P v → ok (body v) (lpost P μ (μ v) Q)) : ok (whl body v) Q := by
  refine whl_tot P Q μ (fun v hv => ?_) v hv
  obtain ⟨a, h1, h2⟩ := hb v hv
  cases a with
  | inl v' => exact Or.inl ⟨v', h1, h2⟩
  | inr a => exact Or.inr ⟨a, h1, h2⟩
/-! numbers -/
theorem t_add {x y : Int32} (h1 : -2147483648 ≤ x.toInt + y.toInt) (h2 : x.toInt + y.toInt < 2147483648) : (x + y).toInt = x.toInt + y.toInt := by
  rw [Int32.toInt_add]
  exact Int.bmod_eq_of_le (by omega) (by omega)
theorem t_sub {x y : Int32} (h1 : -2147483648 ≤ x.toInt - y.toInt) (h2 : x.toInt - y.toInt < 2147483648) : (x - y).toInt = x.toInt - y.toInt := by
  rw [Int32.toInt_sub]
  exact Int.bmod_eq_of_le (by omega) (by omega)
theorem t_mul {x y : Int32} (h1 : -2147483648 ≤ x.toInt * y.toInt) (h2 : x.toInt * y.toInt < 2147483648) : (x * y).toInt = x.toInt * y.toInt := by
  rw [Int32.toInt_mul]
  exact Int.bmod_eq_of_le (by omega) (by omega)
theorem t_ci {n : Int} (h1 : -2147483648 ≤ n) (h2 : n < 2147483648) : (ci n).toInt = n := Int32.toInt_ofInt_of_le (by omega) (by omega)
theorem t_cn {n : Nat} (h : n < 2147483648) : (cn n).toInt = n := Int32.toInt_ofNat_of_lt h
theorem t_lt {x : Int32} : x.toInt < 2147483648 := by have h := Int32.toInt_lt x; omega
theorem t_ge {x : Int32} : -2147483648 ≤ x.toInt := by have h := Int32.le_toInt x; omega
theorem t_zero : (0 : Int32).toInt = 0 := by decide
theorem t_one : (1 : Int32).toInt = 1 := by decide
theorem t_neg_iff {x : Int32} : x < 0 ↔ x.toInt < 0 := by rw [Int32.lt_iff_toInt_lt, t_zero]
theorem t_nn {x : Int32} (h : ¬ x < 0) : 0 ≤ x.toInt := by rw [t_neg_iff] at h; omega
theorem t_of_nn {x : Int32} (h : 0 ≤ x.toInt) : ¬ x < 0 := by rw [t_neg_iff]; omega
theorem t_nat (x : Int32) : x.toNatClampNeg = x.toInt.toNat := rfl
def mUp (x : Int32) : Nat := (2147483647 - x.toInt).toNat
def mDn (x : Int32) : Nat := (x.toInt + 8).toNat
theorem t_c1 : (ci 1).toInt = 1 := by decide
theorem t_cm1 : (ci (-1)).toInt = -1 := by decide
theorem t_cm8 : (ci (-8)).toInt = -8 := by decide
theorem t_up {x : Int32} (h : x.toInt < 2147483647) : (x + ci 1).toInt = x.toInt + 1 := by
  have h2 := @t_ge x
  rw [t_add (by rw [t_c1]; omega) (by rw [t_c1]; omega), t_c1]
theorem t_dn {x : Int32} (h : -2147483648 < x.toInt) : (x + ci (-1)).toInt = x.toInt - 1 := by
  have h2 := @t_lt x
  rw [t_add (by rw [t_cm1]; omega) (by rw [t_cm1]; omega), t_cm1]
  omega
theorem up_t {x : Int32} (h : x.toInt < 2147483647) : mUp (x + ci 1) < mUp x := by
  unfold mUp; rw [t_up h]; omega
theorem lt_t {x e : Int32} (h : x < e) : x.toInt < 2147483647 := by
  rw [Int32.lt_iff_toInt_lt] at h
  have h2 := @t_lt e
  omega
theorem ge_t {x e : Int32} (h : ¬ e ≤ x) : x.toInt < 2147483647 := by
  rw [Int32.le_iff_toInt_le] at h
  have h2 := @t_lt e
  omega
theorem le_t {x e : Int32} (h : ¬ e < x) (hb : e.toInt < 2147483647) : x.toInt < 2147483647 := by
  rw [Int32.lt_iff_toInt_lt] at h
  omega
theorem up_nn {x : Int32} (h0 : ¬ x < 0) (h : x.toInt < 2147483647) : ¬ (x + ci 1) < 0 := by
  have h1 := t_nn h0
  exact t_of_nn (by rw [t_up h]; omega)
theorem dn_t {x : Int32} (h : ¬ x < 0) : mDn (x + ci (-1)) < mDn x := by
  have h1 := t_nn h
  unfold mDn; rw [t_dn (by omega)]; omega
theorem dn8_t {x : Int32} (h : ¬ x < 0) : mDn (x + ci (-8)) < mDn x := by
  have h1 := t_nn h
  have h2 := @t_lt x
  unfold mDn
  rw [t_add (by rw [t_cm8]; omega) (by rw [t_cm8]; omega), t_cm8]; omega
theorem lgc_ne {x : Int64} (h : ¬ lg_cmp x (cz 0) = 0) : ¬ x = 0 := by
  intro q
  subst q
  exact h (by decide)
theorem nn0 : ¬ ci 0 < 0 := t_of_nn (by decide)
theorem nn1 : ¬ ci 1 < 0 := t_of_nn (by decide)
theorem le_z12 : ci 0 ≤ ci 12 := Int32.le_iff_toInt_le.mpr (by decide)
/-! the class: what its calls keep -/
def IC (s : mG) : Prop := s.1 2 0 = ci 12 ∧ s.1 2 3 ≤ ci 12
def RC (b : Bool) (s s' : mG) : Prop := IC s' ∧ (∀ j, 88 ≤ j → s'.1 j = s.1 j) ∧ (∀ j, 88 ≤ j → s'.2 j = s.2 j) ∧ (b = true → s'.1 55 9 = s.1 55 9)
theorem RC_refl {b : Bool} {s : mG} (h : IC s) : RC b s s := ⟨h, fun _ _ => rfl, fun _ _ => rfl, fun _ => rfl⟩
theorem RC_tr {b : Bool} {s0 s s' : mG} (h : RC b s0 s) (k : RC true s s') : RC b s0 s' :=
  ⟨k.1, fun j hj => (k.2.1 j hj).trans (h.2.1 j hj), fun j hj => (k.2.2.1 j hj).trans (h.2.2.1 j hj), fun q => (k.2.2.2 rfl).trans (h.2.2.2 q)⟩
theorem RC_trf {s0 s s' : mG} (h : RC false s0 s) (k : RC false s s') : RC false s0 s' :=
  ⟨k.1, fun j hj => (k.2.1 j hj).trans (h.2.1 j hj), fun j hj => (k.2.2.1 j hj).trans (h.2.2.1 j hj), fun q => absurd q (by decide)⟩
theorem RC_weak {b : Bool} {s0 s : mG} (h : RC b s0 s) : RC false s0 s := ⟨h.1, h.2.1, h.2.2.1, fun q => absurd q (by decide)⟩
theorem ok_tr {b : Bool} {s0 s : mG} {o : Option mG} (h : RC b s0 s) (k : ok o (RC true s)) : ok o (RC b s0) := ok_mono k fun _ q => RC_tr h q
theorem ok_tr2 {α : Type} {b : Bool} {s0 s : mG} {o : Option (α × mG)} (h : RC b s0 s) (k : ok o (fun τ => RC true s τ.2)) : ok o (fun τ => RC b s0 τ.2) := ok_mono k fun _ q => RC_tr h q
theorem ok_tr3 {b : Bool} {s0 s : mG} {o : Option (Int32 × mG)} (h : RC b s0 s) (k : ok o (fun τ => PB τ.1 ∧ RC true s τ.2)) : ok o (fun τ => PB τ.1 ∧ RC b s0 τ.2) := ok_mono k fun _ q => ⟨q.1, RC_tr h q.2⟩
theorem RC_new {b : Bool} {s0 s s' : mG} (h : RC b s0 s) (h1 : ∀ j, 88 ≤ j → s'.1 j = s.1 j) (h2 : ∀ j, 88 ≤ j → s'.2 j = s.2 j) (h3 : s'.1 2 0 = s.1 2 0) (h4 : s'.1 2 3 ≤ ci 12) (h5 : b = true → s'.1 55 9 = s.1 55 9) : RC b s0 s' :=
  ⟨⟨h3.trans h.1.1, h4⟩, fun j hj => (h1 j hj).trans (h.2.1 j hj), fun j hj => (h2 j hj).trans (h.2.2.1 j hj), fun q => (h5 q).trans (h.2.2.2 q)⟩
theorem mu_row {D : Nat → Nat → Int32} {i j k : Nat} {v : Int32} (h : j ≠ i) : mu D i k v j = D j := by unfold mu; rw [if_neg h]
theorem muL_row {D : Nat → Nat → Int64} {i j k : Nat} {v : Int64} (h : j ≠ i) : muL D i k v j = D j := by unfold muL; rw [if_neg h]
theorem mu_same {D : Nat → Nat → Int32} {i k : Nat} {v : Int32} : mu D i k v i k = v := by unfold mu; rw [if_pos rfl, if_pos rfl]
theorem mu_sameP {s : mG} {i k : Nat} {v : Int32} : ((mu s.1 i k v, s.2) : mG).1 i k = v := by
  show mu s.1 i k v i k = v
  exact mu_same
theorem mu_cell {D : Nat → Nat → Int32} {i j k l : Nat} {v : Int32} (h : j ≠ i ∨ l ≠ k) : mu D i k v j l = D j l := by
  unfold mu
  by_cases q : j = i
  · subst q
    rw [if_pos rfl, if_neg (h.resolve_left fun p => p rfl)]
  · rw [if_neg q]
theorem RC_cell {b : Bool} {s0 s : mG} {i k : Nat} {v : Int32} (h : RC b s0 s) (h1 : i < 88) (h2 : i ≠ 2 ∨ (k ≠ 0 ∧ k ≠ 3)) (h3 : b = true → (i ≠ 55 ∨ k ≠ 9)) : RC b s0 (mu s.1 i k v, s.2) := by
  refine RC_new h (fun j hj => mu_row (by omega)) (fun _ _ => rfl) (mu_cell (by omega)) ?_ (fun q => mu_cell (by have := h3 q; omega))
  rw [show (mu s.1 i k v, s.2).1 2 3 = s.1 2 3 from mu_cell (by omega)]
  exact h.1.2
theorem RC_mu {b : Bool} {s0 s : mG} {i k : Nat} {v : Int32} (h : RC b s0 s) (hd : i < 88 ∧ (i ≠ 2 ∨ (k ≠ 0 ∧ k ≠ 3)) ∧ (i ≠ 55 ∨ k ≠ 9)) : RC b s0 (mu s.1 i k v, s.2) := RC_cell h hd.1 hd.2.1 fun _ => hd.2.2
theorem RC_mw {b : Bool} {s0 s : mG} {i k : Nat} {v : Int32} (h : RC b s0 s) (hd : i < 88 ∧ i ≠ 2 ∧ i ≠ 55) : RC b s0 (mu s.1 i k v, s.2) := RC_cell h hd.1 (Or.inl hd.2.1) fun _ => Or.inl hd.2.2
theorem RC_muL {b : Bool} {s0 s : mG} {i k : Nat} {v : Int64} (h : RC b s0 s) (hd : i < 88) : RC b s0 (s.1, muL s.2 i k v) :=
  RC_new h (fun _ _ => rfl) (fun j hj => muL_row (by omega)) rfl h.1.2 (fun _ => rfl)
def m_ob (c t : Nat) : Bool := match SH[t]? with
  | some (.inr (d, _)) => c == d
  | _ => false
theorem m_ob_lt {c t : Nat} (h : m_ob c t = true) : t < 105 := by
  refine Nat.lt_of_not_le fun q => ?_
  unfold m_ob at h
  rw [List.getElem?_eq_none (Nat.le_trans (show SH.length ≤ 105 by decide) q)] at h
  cases h
theorem m_ob10 : ∀ t, t < 105 → m_ob 10 t = true → t < 87 ∧ t ≠ 1 ∧ t ≠ 54 ∧ t ≠ 55 := by decide +kernel
theorem m_ob2 : ∀ t, t < 105 → m_ob 2 t = true → t < 88 ∧ t ≠ 2 ∧ t ≠ 55 := by decide +kernel
theorem m_ob4 : ∀ t, t < 105 → m_ob 4 t = true → t < 88 ∧ t ≠ 2 ∧ t ≠ 55 := by decide +kernel
theorem isT_b {t : Nat} (h : isT t) : t < 87 ∧ t ≠ 1 ∧ t ≠ 54 ∧ t ≠ 55 := by
  have hb : m_ob 10 t = true := by unfold m_ob; rw [h.1]; rfl
  exact m_ob10 t (m_ob_lt hb) hb
theorem isH_b {t : Nat} (h : isH t) : t < 88 ∧ t ≠ 2 ∧ t ≠ 55 := by
  have hb : m_ob 2 t = true := by unfold m_ob; rw [h.1]; rfl
  exact m_ob2 t (m_ob_lt hb) hb
theorem isM_b {t : Nat} (h : isM t) : t < 88 ∧ t ≠ 2 ∧ t ≠ 55 := by
  have hb : m_ob 4 t = true := by unfold m_ob; rw [h.1]; rfl
  exact m_ob4 t (m_ob_lt hb) hb
theorem RC_mt {b : Bool} {s0 s : mG} {t k : Nat} {v : Int32} (h : RC b s0 s) (ht : isT t) : RC b s0 (mu s.1 (t + 1) k v, s.2) := by
  have := isT_b ht
  exact RC_mw h (by omega)
theorem RC_mh {b : Bool} {s0 s : mG} {t k : Nat} {v : Int32} (h : RC b s0 s) (ht : isH t) : RC b s0 (mu s.1 t k v, s.2) := RC_mw h (isH_b ht)
theorem RC_mm {b : Bool} {s0 s : mG} {t k : Nat} {v : Int32} (h : RC b s0 s) (ht : isM t) : RC b s0 (mu s.1 t k v, s.2) := RC_mw h (isM_b ht)
theorem RC_rows {b : Bool} {s0 s : mG} {t : Nat} {v : Int32} (h : RC b s0 s) (ht : isT t) (hv : t = 2 → v ≤ ci 12) : RC b s0 (mu s.1 t 3 v, s.2) := by
  have ht := isT_b ht
  refine RC_new h (fun j hj => mu_row (by omega)) (fun _ _ => rfl) (mu_cell (by omega)) ?_ (fun q => mu_cell (by omega))
  by_cases q : t = 2
  · subst q
    rw [show (mu s.1 2 3 v, s.2).1 2 3 = v from mu_sameP]
    exact hv rfl
  · rw [show (mu s.1 t 3 v, s.2).1 2 3 = s.1 2 3 from mu_cell (by omega)]
    exact h.1.2
theorem ic_lt {s : mG} (h : IC s) : (s.1 2 3).toInt ≤ 12 := by
  have h2 := h.2
  rw [Int32.le_iff_toInt_le, show (ci 12).toInt = 12 by decide] at h2
  exact h2
theorem ic_t {s : mG} (h : IC s) : (s.1 2 3).toInt < 2147483647 := by have := ic_lt h; omega
/-! tables and rows -/
theorem T_X10_at {t : Nat} {s : mG} {a1 a2 : Int32} (h_t : isT t) (hI : IC s) : ok (F_X10_at t s a1 a2) PT := by
  obtain ⟨v, h⟩ := X10_at_tot t s a1 a2
  exact ⟨v, h, trivial⟩
theorem T_X10_put {t : Nat} {s : mG} {a1 a2 a3 : Int32} (h_t : isT t) (hI : IC s) : ok (F_X10_put t a1 a2 a3 s) (RC true s) := by
  obtain ⟨s', h, h2, h3⟩ := X10_put_tot t s a1 a2 a3
  have hb := isT_b h_t
  refine ⟨s', h, RC_new (RC_refl hI) (fun j hj => h3 j (by omega)) (fun j _ => by rw [h2]) (by rw [h3 2 (by omega)]) (by rw [h3 2 (by omega)]; exact hI.2) (fun _ => by rw [h3 55 (by omega)])⟩
theorem T_X11_cell {j n : Nat} {s : mG} {a1 : Int32} (hj : SH[j]? = some (.inl (0, n, []))) (hI : IC s) : ok (F_X11_cell j s a1) PT := by
  obtain ⟨v, h⟩ := X11_cell_tot hj s a1
  exact ⟨v, h, trivial⟩
theorem T_X11_cell_unt {s : mG} {a1 : Int32} (hI : IC s) : ok (F_X11_cell 1000001 s a1) PT := by
  have h1 : mal 1000001 = some 5 := rfl
  unfold F_X11_cell F_X11_cell_20
  rw [h1]
  simp only [b1_some]
  by_cases h2 : a1 < 0
  · rw [if_pos h2]; exact ⟨_, rfl, trivial⟩
  · rw [if_neg h2]
    by_cases h3 : cn 5 ≤ a1
    · rw [if_pos h3]; exact ⟨_, rfl, trivial⟩
    · have h4 : mia s 1000001 a1 = some (m_unt.getD a1.toNatClampNeg 0) := by
        unfold mia
        rw [show SH[1000001]? = none from List.getElem?_eq_none (by decide)]
        simp only [if_neg (idx_ok (n := 5) (by decide) h2 h3)]
        rfl
      rw [if_neg h3, h4]
      exact ⟨_, rfl, trivial⟩
theorem T_X11_put {j n : Nat} {s : mG} {a1 a2 : Int32} (hj : SH[j]? = some (.inl (0, n, []))) (hd : j < 88 ∧ j ≠ 2 ∧ j ≠ 55) (hI : IC s) : ok (F_X11_put j a1 a2 s) (RC true s) := by
  obtain ⟨s', h, h2, h3⟩ := X11_put_tot hj s a1 a2
  refine ⟨s', h, RC_new (RC_refl hI) (fun i hi => h3 i (by omega)) (fun i _ => by rw [h2]) (by rw [h3 2 (by omega)]) (by rw [h3 2 (by omega)]; exact hI.2) (fun _ => by rw [h3 55 (by omega)])⟩
/-! strings -/
theorem imax_nn (x : Int32) : ¬ imax x (ci 0) < 0 := by
  unfold imax
  by_cases h : x < ci 0
  · rw [if_pos h]; decide
  · rw [if_neg h]; exact h
theorem t_rw {v w x : Int32} (h : v = w) (k : ¬ v ≤ x) : ¬ w ≤ x := h ▸ k
theorem mal_s {j : Nat} (h : 1000200 ≤ j ∧ j < 1000227) : mal j = some (m_sb.getD (j - 1000200) []).length := by
  unfold mal
  rw [List.getElem?_eq_none (by have : SH.length ≤ 105 := by decide
                                omega)]
  simp only
  rw [if_neg (by omega), if_pos h]
theorem F_len {sk : Nat} {s : mG} (h : 1000100 ≤ sk ∧ sk < 1000127) : F_J0_length_8abf5 sk s = some (cn (m_sb.getD (sk - 1000100) []).length) := by
  unfold F_J0_length_8abf5 F_J0_coder_7d493
  rw [mal_s (by omega), show sk + 100 - 1000200 = sk - 1000100 by omega, b1_some, if_neg (by decide), b1_some, show ((0 : Int32) &&& 31) = 0 by decide, Int32.shiftRight_zero]
theorem T_len {sk : Nat} {s : mG} (h : 1000100 ≤ sk ∧ sk < 1000127) : ok (F_J0_length_8abf5 sk s) (fun v => v = cn (m_sb.getD (sk - 1000100) []).length) := ⟨_, F_len h, rfl⟩
theorem m_sb_lt (k : Nat) : (m_sb.getD k []).length < 2147483648 := by
  have h : ∀ k, k < m_sb.length → (m_sb.getD k []).length < 2147483648 := by decide +kernel
  by_cases hk : k < m_sb.length
  · exact h k hk
  · rw [List.getD_eq_getElem?_getD, List.getElem?_eq_none (Nat.le_of_not_lt hk)]
    decide
theorem F_chk {s : mG} {a b : Int32} (h0 : ¬ a < 0) (h1 : ¬ b ≤ a) : F_J3_checkIndex_8e157 s a b = some a := by
  unfold F_J3_checkIndex_8e157
  rw [if_neg h0, if_pos (Int32.not_le.mp h1)]
theorem u_16 (z : UInt32) : ((z % 65536).toInt32.toUInt32.toUInt16.toUInt32.toInt32) = (z % 65536).toInt32 := by
  rw [UInt32.toUInt32_toInt32, UInt32.toUInt32_toUInt16]
  congr 1
  apply UInt32.toNat_inj.mp
  rw [UInt32.toNat_mod, UInt32.toNat_mod]
  exact Nat.mod_mod _ _
theorem T_chr {sk : Nat} {s : mG} {i : Int32} (h : 1000100 ≤ sk ∧ sk < 1000127) (h0 : ¬ i < 0) (h1 : ¬ cn (m_sb.getD (sk - 1000100) []).length ≤ i) : ok (F_J0_charAt_5068e sk s i) PT := by
  have e1 : F_J0_isLatin1_aae02 sk s = some (ci 1) := by
    unfold F_J0_isLatin1_aae02
    rw [if_neg (by decide), if_pos rfl]
  unfold F_J0_charAt_5068e
  rw [e1, b1_some, if_neg (by decide)]
  have e2 : F_J1_charAt_3b067 (sk + 100) s i = some ((((m_sb.getD (sk + 100 - 1000200) []).getD i.toNatClampNeg 0) &&& (c16 255)).toUInt32 % 65536).toInt32 := by
    unfold F_J1_charAt_3b067 F_J0_checkIndex_df160
    rw [mal_s (by omega), show sk + 100 - 1000200 = sk - 1000100 by omega, b1_some, F_chk h0 h1, b1_some, b1_some, if_neg (idx_ok (m_sb_lt _) h0 h1), if_pos (u_16 _)]
  rw [e2, b1_some, if_pos (u_16 _)]
  exact ok_some trivial
theorem T_J6_bitCount_0f7a4 {s : mG} {a1 : Int32} {K : Prop} (hI : K) : ok (F_J6_bitCount_0f7a4 s a1) PT := by
  unfold F_J6_bitCount_0f7a4
  exact ok_some trivial
