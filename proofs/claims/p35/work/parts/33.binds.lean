/-! WHAT THE PRINTED FUNCTIONS ARE STRUNG TOGETHER WITH -/
def b1 {α γ : Type} (o : Option α) (f : α → Option γ) : Option γ := match o with
  | none => none
  | some a => f a
def b2 {α β γ : Type} (o : Option (α × β)) (f : α → β → Option γ) : Option γ := match o with
  | none => none
  | some (a, b) => f a b
def bo {α γ : Type} (o : Option (Option α)) (f0 : Option γ) (f1 : α → Option γ) : Option γ := match o with
  | none => none
  | some none => f0
  | some (some a) => f1 a
def bs {γ : Type} (o : Option mS) (f : Nat → Option γ) : Option γ := match o with
  | some (.inl (0, n, _)) => f n
  | _ => none
theorem m_b1 {α γ : Type} {o : Option α} {f : α → Option γ} {τ : γ} (h : b1 o f = some τ) : ∃ a, o = some a ∧ f a = some τ := by
  cases o with
  | none => cases h
  | some a => exact ⟨a, rfl, h⟩
theorem m_b2 {α β γ : Type} {o : Option (α × β)} {f : α → β → Option γ} {τ : γ} (h : b2 o f = some τ) : ∃ a b, o = some (a, b) ∧ f a b = some τ := by
  cases o with
  | none => cases h
  | some a => exact ⟨a.1, a.2, rfl, h⟩
theorem m_bo {α γ : Type} {o : Option (Option α)} {f0 : Option γ} {f1 : α → Option γ} {τ : γ} (h : bo o f0 f1 = some τ) : (o = some none ∧ f0 = some τ) ∨ ∃ a, o = some (some a) ∧ f1 a = some τ := by
  match o, h with
  | none, h => cases h
  | some none, h => exact Or.inl ⟨rfl, h⟩
  | some (some a), h => exact Or.inr ⟨a, rfl, h⟩
theorem m_bs {γ : Type} {o : Option mS} {f : Nat → Option γ} {τ : γ} (h : bs o f = some τ) : ∃ n q, o = some (.inl (0, n, q)) ∧ f n = some τ := by
  unfold bs at h
  split at h
  · next n q => exact ⟨n, q, rfl, h⟩
  · cases h
theorem b1_some {α γ : Type} {a : α} {f : α → Option γ} : b1 (some a) f = f a := rfl
theorem b2_some {α β γ : Type} {a : α} {b : β} {f : α → β → Option γ} : b2 (some (a, b)) f = f a b := rfl
theorem bo_none {α γ : Type} {f0 : Option γ} {f1 : α → Option γ} : bo (some none) f0 f1 = f0 := rfl
theorem bo_some {α γ : Type} {a : α} {f0 : Option γ} {f1 : α → Option γ} : bo (some (some a)) f0 f1 = f1 a := rfl
theorem m_gn {c : Prop} [Decidable c] {γ : Type} {o : Option γ} {τ : γ} (h : (if c then none else o) = some τ) : ¬ c ∧ o = some τ := by
  by_cases hc : c
  · rw [if_pos hc] at h; cases h
  · rw [if_neg hc] at h; exact ⟨hc, h⟩
theorem m_gp {c : Prop} [Decidable c] {γ : Type} {o : Option γ} {τ : γ} (h : (if c then o else none) = some τ) : c ∧ o = some τ := by
  by_cases hc : c
  · rw [if_pos hc] at h; exact ⟨hc, h⟩
  · rw [if_neg hc] at h; cases h
theorem m_ifp {c : Prop} [Decidable c] {α : Type} {a b x : α} (hc : c) (h : (if c then a else b) = x) : a = x := by rw [if_pos hc] at h; exact h
theorem m_ifn {c : Prop} [Decidable c] {α : Type} {a b x : α} (hc : ¬ c) (h : (if c then a else b) = x) : b = x := by rw [if_neg hc] at h; exact h
theorem m_ret_b {ret : Option FieldType} {v : Int32} (hr : ret = some .boolean) (h : v = 0 ∨ v = 1) : m_ret ret .ireturn [.int v] = some (some (.int v)) := by subst hr; exact if_pos h
theorem m_ret_c {ret : Option FieldType} {v : Int32} (hr : ret = some .char) (h : v.toUInt32.toUInt16.toUInt32.toInt32 = v) : m_ret ret .ireturn [.int v] = some (some (.int v)) := by subst hr; exact if_pos h
theorem m_ret_y {ret : Option FieldType} {v : Int32} (hr : ret = some .byte) (h : v.toInt8.toInt32 = v) : m_ret ret .ireturn [.int v] = some (some (.int v)) := by subst hr; exact if_pos h
