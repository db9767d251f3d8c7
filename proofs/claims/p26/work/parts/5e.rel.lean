noncomputable section
/-! TWO RUNS SIDE BY SIDE -/
def rel {α β : Type} (x : Option α) (y : Option β) (R : α → β → Prop) : Prop := ∀ u, x = some u → ∀ v, y = some v → R u v
theorem rel_some {α β : Type} {u : α} {v : β} {R : α → β → Prop} (h : R u v) : rel (some u) (some v) R := fun _ e _ e2 => Option.some.inj e ▸ Option.some.inj e2 ▸ h
theorem rel_mono {α β : Type} {x : Option α} {y : Option β} {P R : α → β → Prop} (h : rel x y P) (k : ∀ u v, P u v → R u v) : rel x y R := fun u e v e2 => k u v (h u e v e2)
theorem rel_b1 {α β γ δ : Type} {x : Option α} {y : Option β} {f : α → Option γ} {g : β → Option δ} {P : α → β → Prop} {R : γ → δ → Prop} (h : rel x y P) (k : ∀ u v, P u v → rel (f u) (g v) R) : rel (b1 x f) (b1 y g) R := fun u e v e2 => by
  obtain ⟨a, h1, h2⟩ := m_b1 e
  obtain ⟨b, h3, h4⟩ := m_b1 e2
  exact k a b (h a h1 b h3) u h2 v h4
theorem rel_b2 {α α' β β' γ δ : Type} {x : Option (α × α')} {y : Option (β × β')} {f : α → α' → Option γ} {g : β → β' → Option δ} {P : α × α' → β × β' → Prop} {R : γ → δ → Prop} (h : rel x y P) (k : ∀ u u' v v', P (u, u') (v, v') → rel (f u u') (g v v') R) : rel (b2 x f) (b2 y g) R := fun u e v e2 => by
  obtain ⟨a, a', h1, h2⟩ := m_b2 e
  obtain ⟨b, b', h3, h4⟩ := m_b2 e2
  exact k a a' b b' (h _ h1 _ h3) u h2 v h4
theorem rel_l1 {α β γ : Type} {x : Option α} {f : α → Option γ} {y : Option β} {P : α → Prop} {R : γ → β → Prop} (h : pk x P) (k : ∀ u, P u → rel (f u) y R) : rel (b1 x f) y R := fun u e v e2 => by
  obtain ⟨a, h1, h2⟩ := m_b1 e
  exact k a (h a h1) u h2 v e2
theorem rel_r1 {α β γ : Type} {x : Option α} {f : α → Option γ} {y : Option β} {P : α → Prop} {R : β → γ → Prop} (h : pk x P) (k : ∀ u, P u → rel y (f u) R) : rel y (b1 x f) R := fun u e v e2 => by
  obtain ⟨a, h1, h2⟩ := m_b1 e2
  exact k a (h a h1) u e v h2
theorem rel_l2 {α α' β γ : Type} {x : Option (α × α')} {f : α → α' → Option γ} {y : Option β} {P : α × α' → Prop} {R : γ → β → Prop} (h : pk x P) (k : ∀ u u', P (u, u') → rel (f u u') y R) : rel (b2 x f) y R := fun u e v e2 => by
  obtain ⟨a, a', h1, h2⟩ := m_b2 e
  exact k a a' (h _ h1) u h2 v e2
theorem rel_r2 {α α' β γ : Type} {x : Option (α × α')} {f : α → α' → Option γ} {y : Option β} {P : α × α' → Prop} {R : β → γ → Prop} (h : pk x P) (k : ∀ u u', P (u, u') → rel y (f u u') R) : rel y (b2 x f) R := fun u e v e2 => by
  obtain ⟨a, a', h1, h2⟩ := m_b2 e2
  exact k a a' (h _ h1) u e v h2
theorem rel_lg {c : Prop} [Decidable c] {α β : Type} {x : Option α} {y : Option β} {R : α → β → Prop} (h : rel x y R) : rel (if c then none else x) y R := fun u e v e2 => h u (m_gn e).2 v e2
theorem rel_rg {c : Prop} [Decidable c] {α β : Type} {x : Option α} {y : Option β} {R : α → β → Prop} (h : rel x y R) : rel x (if c then none else y) R := fun u e v e2 => h u e v (m_gn e2).2
theorem rel_lp {c : Prop} [Decidable c] {α β : Type} {x : Option α} {y : Option β} {R : α → β → Prop} (h : rel x y R) : rel (if c then x else none) y R := fun u e v e2 => h u (m_gp e).2 v e2
theorem rel_rp {c : Prop} [Decidable c] {α β : Type} {x : Option α} {y : Option β} {R : α → β → Prop} (h : rel x y R) : rel x (if c then y else none) R := fun u e v e2 => h u e v (m_gp e2).2
theorem rel_ifs {c d : Prop} [Decidable c] [Decidable d] {α β : Type} {x x' : Option α} {y y' : Option β} {R : α → β → Prop} (e : c ↔ d) (h1 : c → rel x y R) (h2 : ¬ c → rel x' y' R) : rel (if c then x else x') (if d then y else y') R := by
  by_cases h : c
  · rw [if_pos h, if_pos (e.mp h)]; exact h1 h
  · rw [if_neg h, if_neg (fun q => h (e.mpr q))]; exact h2 h
theorem rel_li {c : Prop} [Decidable c] {α β : Type} {x x' : Option α} {y : Option β} {R : α → β → Prop} (h1 : c → rel x y R) (h2 : ¬ c → rel x' y R) : rel (if c then x else x') y R := by
  by_cases h : c
  · rw [if_pos h]; exact h1 h
  · rw [if_neg h]; exact h2 h
theorem rel_ri {c : Prop} [Decidable c] {α β : Type} {x x' : Option α} {y : Option β} {R : β → α → Prop} (h1 : c → rel y x R) (h2 : ¬ c → rel y x' R) : rel y (if c then x else x') R := by
  by_cases h : c
  · rw [if_pos h]; exact h1 h
  · rw [if_neg h]; exact h2 h
/-- one turn of a loop, and on -/
def bw {σ ρ : Type} (o : Option (σ ⊕ ρ)) (k : σ → Option ρ) : Option ρ := match o with
  | none => none
  | some (.inl v) => k v
  | some (.inr a) => some a
theorem whl_bw {σ ρ : Type} (body : σ → Option (σ ⊕ ρ)) (v : σ) : whl body v = bw (body v) (whl body) := whl_eq body v
theorem bw_l {σ ρ : Type} {k : σ → Option ρ} {v : σ} : bw (some (.inl v)) k = k v := rfl
theorem bw_r {σ ρ : Type} {k : σ → Option ρ} {a : ρ} : bw (some (.inr a)) k = some a := rfl
theorem bw_n {σ ρ : Type} {k : σ → Option ρ} : bw none k = none := rfl
theorem bw_b1 {α σ ρ : Type} {x : Option α} {f : α → Option (σ ⊕ ρ)} {k : σ → Option ρ} : bw (b1 x f) k = b1 x (fun u => bw (f u) k) := by
  cases x <;> rfl
theorem bw_b2 {α β σ ρ : Type} {x : Option (α × β)} {f : α → β → Option (σ ⊕ ρ)} {k : σ → Option ρ} : bw (b2 x f) k = b2 x (fun u v => bw (f u v) k) := by
  cases x <;> rfl
theorem bw_if {c : Prop} [Decidable c] {σ ρ : Type} {x y : Option (σ ⊕ ρ)} {k : σ → Option ρ} : bw (if c then x else y) k = if c then bw x k else bw y k := by
  by_cases h : c
  · rw [if_pos h, if_pos h]
  · rw [if_neg h, if_neg h]
theorem bw_b1r {σ ρ : Type} {x : Option ρ} {k : σ → Option ρ} : bw (b1 x fun τ => some (.inr τ)) k = x := by
  cases x <;> rfl
theorem b1_id {α : Type} {x : Option α} : b1 x (fun u => some u) = x := by cases x <;> rfl
/-! THE TEXT BEING READ: token i stands before both -/
/-- what is fixed while a text is read: the tape, its length, what is read, the tokens -/
def ST (T : Nat → Int32) (len r m : Nat) (B : Nat → Nat) : Prop := len ≤ 400 ∧ r < 3 ∧ m ≤ 400 ∧ (∀ k, k < len → 0 ≤ (T k).toInt ∧ (T k).toInt ≤ 255)
/-- the class stands before token i -/
def CP (T : Nat → Int32) (len m : Nat) (B : Nat → Nat) (i : Nat) (a : mG) : Prop := TKA T len m B a ∧ i ≤ m ∧ a.1 55 12 = cn i ∧ a.1 55 14 = a.1 66 (i * 3 + 0) ∧ a.1 55 15 = a.1 66 (i * 3 + 1) ∧ a.1 55 16 = a.1 66 (i * 3 + 2)
/-- the reference stands before token i -/
def RP (T : Nat → Int32) (len r m : Nat) (B : Nat → Nat) (i : Nat) (b : mG) : Prop := (∀ k, k < len → b.1 95 k = T k) ∧ b.1 88 15 = cn len ∧ (b.1 88 11 = cn r ∧ b.1 88 22 = ci 0 ∧ b.1 88 24 = ci (-1)) ∧ i ≤ m ∧
  ((i = m ∧ b.1 88 18 = cn len ∧ b.1 88 17 = 0 ∧ b.1 88 16 = cn len) ∨ (i < m ∧ b.1 88 16 = cn (B (i + 1)) ∧ ∃ a, Tok T len (B i) a (B (i + 1)) ∧ a < len ∧ b.1 88 18 = cn a ∧ KR r T len a (B (i + 1)) (b.1 88 17) ∧ (ltv (T a) = 0 → ¬ dgv (T a) = 0 → B (i + 1) - a ≤ 4 → b.1 88 19 = nv T a (B (i + 1) - a))))
theorem KC_ne {T : Nat → Int32} {a b : Nat} {kc : Int32} (hB : 0 ≤ (T a).toInt) (h : KC T a b kc) : kc ≠ ci (-1) := by
  intro e
  subst e
  rcases h with ⟨_, ⟨w, hw, e⟩ | ⟨_, e⟩⟩ | ⟨_, _, ⟨_, e⟩ | ⟨_, e⟩⟩ | ⟨_, _, e⟩
  · have h26 := hw.1
    have e1 : (c16 256 + cn w).toInt = 256 + (w : Int) := r_add (by decide : (c16 256).toInt = 256) (t_cn (by omega)) (by omega) (by omega)
    rw [← e, t_cm1] at e1
    omega
  · exact absurd e (by decide)
  · exact absurd e (by decide)
  · exact absurd e (by decide)
  · rw [← e, t_cm1] at hB
    omega
/-- what both see -/
theorem PR_facts {T : Nat → Int32} {len r m i : Nat} {B : Nat → Nat} {a b : mG} (hS : ST T len r m B) (hC : CP T len m B i a) (hR : RP T len r m B i b) : KP r (a.1 55 14) (b.1 88 17) ∧ a.1 55 16 = b.1 88 18 ∧ (a.1 55 14 = c8 (-2) → a.1 55 15 = b.1 88 19) ∧ (a.1 55 14 = ci (-1) ↔ i = m) := by
  obtain ⟨⟨m4, B0, tt, tk, k1, k2, k3⟩, him, c12, c14, c15, cp16⟩ := hC
  obtain ⟨r1, r2, r3, _, r4⟩ := hR
  rcases r4 with ⟨e, h18, h17, h16⟩ | ⟨hi, h16, p, ht, hp, h18, hk, hn⟩
  · subst e
    rw [c14, cp16, k1, k2, h17, h18]
    exact ⟨KP_end, rfl, fun h => absurd h (by decide), ⟨fun _ => rfl, fun _ => rfl⟩⟩
  · obtain ⟨p', z1, z2, z3, z4, z5⟩ := tk i hi
    have e := (Tok_one ht z1).1
    subst e
    rw [c14, c15, cp16, z5, h18]
    have hB := hS.2.2.2 p hp
    refine ⟨KC_KR hS.2.1 hB hp z3 hk, rfl, fun h => ?_, ⟨fun h => absurd h (KC_ne hB.1 z3), fun h => by omega⟩⟩
    rw [h] at z3
    rcases z3 with ⟨_, ⟨w, hw, e⟩ | ⟨_, e⟩⟩ | ⟨l, d, ⟨q, e⟩ | ⟨_, e⟩⟩ | ⟨_, _, e⟩
    · have h26 := hw.1
      have e1 : (c16 256 + cn w).toInt = 256 + (w : Int) := r_add (by decide : (c16 256).toInt = 256) (t_cn (by omega)) (by omega) (by omega)
      rw [← e] at e1
      have e2 : (c8 (-2)).toInt = -2 := by decide
      omega
    · exact absurd e (by decide)
    · rw [z4 d q, hn l d q]
    · exact absurd e (by decide)
    · rw [← e, show (c8 (-2)).toInt = -2 by decide] at hB
      omega
/-- the class steps on -/
def CFr (a u : mG) : Prop := u.2 = a.2 ∧ (∀ j, j ≠ 55 → u.1 j = a.1 j) ∧ ∀ c, c ≠ 12 → c ≠ 14 → c ≠ 15 → c ≠ 16 → u.1 55 c = a.1 55 c
theorem TKA_row {T : Nat → Int32} {len m : Nat} {B : Nat → Nat} {a u : mG} (h : TKA T len m B a) (e65 : u.1 65 = a.1 65) (e66 : u.1 66 = a.1 66) : TKA T len m B u := by
  unfold TKA TT TKS
  rw [e65, e66]
  exact h
theorem V_stepG {T : Nat → Int32} {len m j : Nat} {B : Nat → Nat} {a : mG} (hK : TKA T len m B a) (h12 : a.1 55 12 + ci 1 = cn j) (hj : j ≤ m) : pk (F_X7_stepOn a) (fun u => CP T len m B j u ∧ CFr a u) := by
  have tt := hK.2.2.1
  have m4 := hK.1
  unfold F_X7_stepOn
  have e12 : imin ((a.1 55 12) + (ci 1)) ((a.1 65 3) - (ci 1)) = cn j := by
    rw [h12, tt.2.2, show cn (m + 1) - ci 1 = cn m from (cn_sub (a := m + 1) (b := 1) (by omega) (by omega)).trans (by rw [Nat.add_sub_cancel])]
    exact if_neg fun q => absurd ((cn_lt (by omega) (by omega)).mp q) (by omega)
  rw [e12]
  have w : ∀ D : Nat → Nat → Int32, (∀ j, j ≠ 55 → D j = a.1 j) → D 55 12 = cn j → ∀ (c : Nat) (x : Int32), x = ci (c : Int) → c < 3 → F_X10_at 65 (D, a.2) (D 55 12) x = some (a.1 66 (j * 3 + c)) := fun D hD h12 c x hx hc => by
    have e : F_X10_at 65 ((D, a.2) : mG) (D 55 12) x = some (((D, a.2) : mG).1 (65 + 1) (j * 3 + c)) := V_at (n := m + 1) (W := 3) h12 (hx.trans rfl) ((congrFun (hD 65 (by decide)) 1).trans tt.2.1) ((congrFun (hD 65 (by decide)) 3).trans tt.2.2) (by omega) hc (by rw [al_66]; omega) (by omega)
    rw [e]
    exact congrArg some (congrFun (hD 66 (by decide)) _)
  extract_lets s1
  have d1 : ∀ j, j ≠ 55 → s1.1 j = a.1 j := fun j hj => mu_rowQ hj
  have g1 : s1.1 55 12 = cn j := mu_sameQ
  have o1 : ∀ c, c ≠ 12 → s1.1 55 c = a.1 55 c := fun c hc => mu_cellQ (Or.inr hc)
  have q1 : s1.2 = a.2 := rfl
  clear_value s1
  obtain ⟨D1, E1⟩ := s1
  have q1 : E1 = a.2 := q1
  subst q1
  rw [w D1 d1 g1 0 (ci 0) rfl (by omega), b1_some]
  extract_lets s4
  have d4 : ∀ j, j ≠ 55 → s4.1 j = a.1 j := fun j hj => (mu_rowQ hj).trans (d1 j hj)
  have g4 : s4.1 55 12 = cn j := (mu_cellQ (by omega)).trans g1
  have o4 : ∀ c, c ≠ 12 → c ≠ 14 → s4.1 55 c = a.1 55 c := fun c h1 h2 => (mu_cellQ (Or.inr h2)).trans (o1 c h1)
  have p4 : s4.1 55 14 = a.1 66 (j * 3 + 0) := mu_sameQ
  have q4 : s4.2 = a.2 := rfl
  clear_value s4
  obtain ⟨D4, E4⟩ := s4
  have q4 : E4 = a.2 := q4
  subst q4
  rw [w D4 d4 g4 1 (ci 1) rfl (by omega), b1_some]
  extract_lets s7
  have d7 : ∀ j, j ≠ 55 → s7.1 j = a.1 j := fun j hj => (mu_rowQ hj).trans (d4 j hj)
  have g7 : s7.1 55 12 = cn j := (mu_cellQ (by omega)).trans g4
  have o7 : ∀ c, c ≠ 12 → c ≠ 14 → c ≠ 15 → s7.1 55 c = a.1 55 c := fun c h1 h2 h3 => (mu_cellQ (Or.inr h3)).trans (o4 c h1 h2)
  have p7 : s7.1 55 14 = a.1 66 (j * 3 + 0) := (mu_cellQ (by omega)).trans p4
  have r7 : s7.1 55 15 = a.1 66 (j * 3 + 1) := mu_sameQ
  have q7 : s7.2 = a.2 := rfl
  clear_value s7
  obtain ⟨D7, E7⟩ := s7
  have q7 : E7 = a.2 := q7
  subst q7
  rw [w D7 d7 g7 2 (ci 2) rfl (by omega), b1_some]
  have d10 : ∀ i, i ≠ 55 → mu D7 55 16 (a.1 66 (j * 3 + 2)) i = a.1 i := fun i hi => (mu_row hi).trans (d7 i hi)
  refine pk_some ⟨⟨TKA_row hK (d10 65 (by decide)) (d10 66 (by decide)), hj, (mu_cellQ (by omega)).trans g7, ?_, ?_, ?_⟩, rfl, d10, fun c h1 h2 h3 h4 => (mu_cellQ (Or.inr h4)).trans (o7 c h1 h2 h3)⟩
  · exact ((mu_cellQ (by omega)).trans p7).trans (congrFun (d10 66 (by decide)) _).symm
  · exact ((mu_cellQ (by omega)).trans r7).trans (congrFun (d10 66 (by decide)) _).symm
  · exact mu_sameQ.trans (congrFun (d10 66 (by decide)) _).symm
theorem V_stepOn {T : Nat → Int32} {len m i : Nat} {B : Nat → Nat} {a : mG} (hC : CP T len m B i a) (hi : i < m) : pk (F_X7_stepOn a) (fun u => CP T len m B (i + 1) u ∧ CFr a u) := by
  have m4 := hC.1.1
  exact V_stepG hC.1 (by rw [hC.2.2.1, cnu (by omega)]) (by omega)
/-- behind a token that ends at B i -/
theorem V_nextG {T : Nat → Int32} {len r m j : Nat} {B : Nat → Nat} {a b : mG} (hS : ST T len r m B) (hK : TKA T len m B a) (r1 : ∀ k, k < len → b.1 95 k = T k) (r2 : b.1 88 15 = cn len) (r3 : b.1 88 11 = cn r ∧ b.1 88 22 = ci 0 ∧ b.1 88 24 = ci (-1)) (h16 : b.1 88 16 = cn (B j)) (hle : B j ≤ len) (hj : j ≤ m) : pk (F_X12_next0 b) (fun u => RP T len r m B j u ∧ NF b u) := by
  obtain ⟨m4, B0, tt, tk, k1, k2, k3⟩ := hK
  refine fun u hu => ?_
  obtain ⟨nf, p', b', q1, q2, q3, q4, q5⟩ := V_next0 r1 r2 hS.1 hS.2.1 r3.1 h16 hle (fun k hk => (hS.2.2.2 k hk).1) u hu
  refine ⟨⟨fun k hk => (congrFun (nf.2.1 95 (by decide)) k).trans (r1 k hk), (nf.2.2 15 (by decide) (by decide) (by decide) (by decide)).trans r2, ⟨(nf.2.2 11 (by decide) (by decide) (by decide) (by decide)).trans r3.1, (nf.2.2 22 (by decide) (by decide) (by decide) (by decide)).trans r3.2.1, (nf.2.2 24 (by decide) (by decide) (by decide) (by decide)).trans r3.2.2⟩, hj, ?_⟩, nf⟩
  by_cases him : j = m
  · have hrun : Run bkv T len (B j) len := by rw [him]; exact k3
    have e : p' = len := Run_one q1.1 hrun
    subst e
    rcases q1.2 with ⟨_, e⟩ | ⟨e, _⟩
    · subst e
      rcases q4 with ⟨_, e⟩ | ⟨e, _⟩
      · exact Or.inl ⟨him, q2, e, q3⟩
      · omega
    · omega
  · obtain ⟨p2, z1, z2, z3, z4, z5⟩ := tk j (by omega)
    obtain ⟨e1, e2⟩ := Tok_one q1 z1
    subst e1; subst e2
    exact Or.inr ⟨by omega, q3, p', q1, z2, q2, q4, fun l d h => q5 z2 l d h⟩
/-- the reference steps on -/
theorem V_next {T : Nat → Int32} {len r m i : Nat} {B : Nat → Nat} {a b : mG} (hS : ST T len r m B) (hK : TKA T len m B a) (hR : RP T len r m B i b) (hi : i < m) : pk (F_X12_next0 b) (fun u => RP T len r m B (i + 1) u ∧ NF b u) := by
  obtain ⟨r1, r2, r3, _, r4⟩ := hR
  rcases r4 with ⟨e, _⟩ | ⟨_, h16, p, ht, hp, h18, hk, hn⟩
  · omega
  · exact V_nextG hS hK r1 r2 r3 h16 (Tok_lt ht hp).2 (by omega)
end
