noncomputable section
/-! ONE CELL IS KEPT: the class (0,2) (an image stands), the reference (88,4) -/
def pk {α : Type} (o : Option α) (P : α → Prop) : Prop := ∀ a, o = some a → P a
def KV (i k : Nat) (v : Int32) (s : mG) : Prop := s.1 i k = v
def se {α β : Type} (P : α → Prop) (Q : β → Prop) : α ⊕ β → Prop
  | .inl a => P a
  | .inr b => Q b
theorem pk_top {α : Type} {o : Option α} : pk o PT := fun _ _ => trivial
theorem pk_none {α : Type} {P : α → Prop} : pk none P := fun _ h => by cases h
theorem pk_some {α : Type} {a : α} {P : α → Prop} (h : P a) : pk (some a) P := fun _ e => Option.some.inj e ▸ h
theorem pk_nn {c : Prop} [Decidable c] {α : Type} {y : Option α} {P : α → Prop} (h : pk y P) : pk (if c then none else y) P := by
  by_cases q : c
  · rw [if_pos q]; exact pk_none
  · rw [if_neg q]; exact h
theorem pk_pp {c : Prop} [Decidable c] {α : Type} {y : Option α} {P : α → Prop} (h : pk y P) : pk (if c then y else none) P := by
  by_cases q : c
  · rw [if_pos q]; exact h
  · rw [if_neg q]; exact pk_none
theorem pk_ite {c : Prop} [Decidable c] {α : Type} {x y : Option α} {P : α → Prop} (h1 : pk x P) (h2 : pk y P) : pk (if c then x else y) P := by
  by_cases q : c
  · rw [if_pos q]; exact h1
  · rw [if_neg q]; exact h2
theorem pk_b1 {α γ : Type} {o : Option α} {f : α → Option γ} {P : α → Prop} {Q : γ → Prop} (h : pk o P) (k : ∀ a, P a → pk (f a) Q) : pk (b1 o f) Q := fun τ e => by
  obtain ⟨a, h1, h2⟩ := m_b1 e
  exact k a (h a h1) τ h2
theorem pk_b2 {α β γ : Type} {o : Option (α × β)} {f : α → β → Option γ} {P : α × β → Prop} {Q : γ → Prop} (h : pk o P) (k : ∀ a b, P (a, b) → pk (f a b) Q) : pk (b2 o f) Q := fun τ e => by
  cases o with
  | none => cases e
  | some a => exact k a.1 a.2 (h a rfl) τ e
theorem pk_bo {α γ : Type} {o : Option (Option α)} {f0 : Option γ} {f1 : α → Option γ} {Q : γ → Prop} (k0 : pk f0 Q) (k1 : ∀ a, o = some (some a) → pk (f1 a) Q) : pk (bo o f0 f1) Q := fun τ e => by
  cases o with
  | none => cases e
  | some a =>
    cases a with
    | none => exact k0 τ e
    | some a => exact k1 a rfl τ e
theorem pk_bs {γ : Type} {o : Option mS} {f : Nat → Option γ} {Q : γ → Prop} (k : ∀ n, pk (f n) Q) : pk (bs o f) Q := fun τ e => by
  unfold bs at e
  split at e
  · exact k _ τ e
  · cases e
theorem pk_b1r {σ ρ : Type} {o : Option ρ} {P : σ → Prop} {Q : ρ → Prop} (h : pk o Q) : pk (b1 o fun τ => some (Sum.inr τ)) (se P Q) := pk_b1 h fun _ hq => pk_some hq
theorem pk_b1rr {σ ρ σ' : Type} {o : Option ρ} {P : σ → Prop} {P' : σ' → Prop} {Q : ρ → Prop} (h : pk o Q) : pk (b1 o fun τ => some (Sum.inr (Sum.inr τ))) (se P (se P' Q)) := pk_b1 h fun _ hq => pk_some hq
theorem pk_whl {σ ρ : Type} {body : σ → Option (σ ⊕ ρ)} (P : σ → Prop) {Q : ρ → Prop} {v : σ} (hv : P v) (hb : ∀ v, P v → pk (body v) (se P Q)) : pk (whl body v) Q := fun τ e => by
  obtain ⟨n, hn⟩ := whl_spec.mp e
  clear e
  induction n generalizing v with
  | zero => cases hn
  | succ n ih =>
    unfold lp at hn
    split at hn
    · cases hn
    · next v' hb' => exact ih (hb v hv _ hb') hn
    · next a hb' => exact Option.some.inj hn ▸ (hb v hv _ hb' : Q _)
theorem KV_mu {i k j l : Nat} {v w : Int32} {s : mG} (h : KV i k v s) (d : i ≠ j ∨ k ≠ l) : KV i k v (mu s.1 j l w, s.2) := by
  show mu s.1 j l w i k = v
  rw [mu_cell d]; exact h
theorem isM_ne0 {k : Nat} (h : isM k) : k ≠ 0 := fun e => by
  subst e
  exact absurd h.1 (by decide)
end
