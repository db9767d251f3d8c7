noncomputable section
/-! ONE GUEST IN AN HOUR, on both sides -/
def se2 {σ ρ σ' ρ' : Type} (P : σ → σ' → Prop) (Q : ρ → ρ' → Prop) : σ ⊕ ρ → σ' ⊕ ρ' → Prop
  | .inl a, .inl b => P a b
  | .inr a, .inr b => Q a b
  | _, _ => False
theorem rel_whl {σ ρ σ' ρ' : Type} {f : σ → Option (σ ⊕ ρ)} {g : σ' → Option (σ' ⊕ ρ')} (P : σ → σ' → Prop) {Q : ρ → ρ' → Prop} {v : σ} {w : σ'} (hv : P v w) (h : ∀ v w, P v w → rel (f v) (g w) (se2 P Q)) : rel (whl f v) (whl g w) Q := fun x hx y hy => by
  obtain ⟨n, hn⟩ := whl_spec.mp hx
  obtain ⟨m, hm⟩ := whl_spec.mp hy
  clear hx hy
  induction n generalizing v w m with
  | zero => cases hn
  | succ n ih =>
    cases m with
    | zero => cases hm
    | succ m =>
      unfold lp at hn hm
      cases hf : f v with
      | none => rw [hf] at hn; cases hn
      | some s =>
        cases hg : g w with
        | none => rw [hg] at hm; cases hm
        | some t =>
          have q := h v w hv s hf t hg
          rw [hf] at hn
          rw [hg] at hm
          cases s with
          | inl v' =>
            cases t with
            | inl w' => exact ih q hn m hm
            | inr b => cases q
          | inr a =>
            cases t with
            | inl w' => cases q
            | inr b =>
              have e1 := Option.some.inj hn
              have e2 := Option.some.inj hm
              subst e1; subst e2
              exact q
theorem rel_nl {α β : Type} {y : Option β} {R : α → β → Prop} : rel none y R := fun _ e => by cases e
theorem rel_nr {α β : Type} {x : Option α} {R : α → β → Prop} : rel x none R := fun _ _ _ e => by cases e
theorem mu_comm {D : Nat → Nat → Int32} {i j k l : Nat} {u v : Int32} (h : i ≠ j ∨ k ≠ l) : mu (mu D i k u) j l v = mu (mu D j l v) i k u := by
  funext p q
  rw [mu_ap, mu_ap, mu_ap, mu_ap]
  by_cases h1 : p = j ∧ q = l
  · rw [if_pos h1, if_neg (by omega), if_pos h1]
  · rw [if_neg h1]
    by_cases h2 : p = i ∧ q = k
    · rw [if_pos h2, if_pos h2]
    · rw [if_neg h2, if_neg h2, if_neg h1]
theorem mu_idd {D : Nat → Nat → Int32} {i k : Nat} {v : Int32} (h : D i k = v) : mu D i k v = D := by
  funext p q
  rw [mu_ap]
  by_cases e : p = i ∧ q = k
  · rw [if_pos e, e.1, e.2, h]
  · rw [if_neg e]
/-! draws -/
def nxD (x : Int32) : Int32 := x * ci 1664525 + ci 1013904223
def dvD (x : Int32) : Int32 := rm (ushr (nxD x) (c8 8)) (c16 1000)
theorem V_drawC {a : mG} : F_X2_drawThousand 1 a = some (dvD (a.1 1 11), (mu a.1 1 11 (nxD (a.1 1 11)), a.2)) := by
  unfold F_X2_drawThousand
  dsimp only
  rw [mu_same]
  rfl
theorem V_drawR {b : mG} : F_X12_draw (c16 1000) b = some (dvD (b.1 89 1), (mu b.1 89 1 (nxD (b.1 89 1)), b.2)) := by
  unfold F_X12_draw
  dsimp only
  rw [if_neg (by decide), mu_same, Int32.mul_comm]
  rfl
theorem V_isDrawn {a : mG} {k : Nat} {e : Int32} (he : e = cn k) (hk : k < 5) : F_X6_isDrawn e a = some (if a.1 72 k ≤ dvD (a.1 1 11) then ci 0 else ci 1, (mu a.1 1 11 (nxD (a.1 1 11)), a.2)) := by
  unfold F_X6_isDrawn
  rw [V_drawC, b2_some, he, V_cellJ sh72 hk (by decide), b1_some, show ((mu a.1 1 11 (nxD (a.1 1 11)), a.2) : mG).1 72 k = a.1 72 k from congrFun (mu_rowQ (by decide)) k]
  by_cases h : a.1 72 k ≤ dvD (a.1 1 11)
  · rw [if_pos h, if_pos h]
  · rw [if_neg h, if_neg h]
/-- what stays of the class, what of the reference -/
def CFh (a u : mG) : Prop := ∀ j, j ≠ 1 → j ≠ 3 → j ≠ 4 → j ≠ 5 → j ≠ 69 → j ≠ 70 → j ≠ 72 → u.1 j = a.1 j
def RFh (b u : mG) : Prop := (∀ j, j ≠ 89 → j ≠ 96 → j ≠ 97 → u.1 j = b.1 j) ∧ (∀ k, ((111 ≤ k ∧ k < 235) ∨ 985 ≤ k) → u.1 89 k = b.1 89 k) ∧ (b.1 89 2).toInt ≤ (u.1 89 2).toInt
theorem CFh_rfl {a : mG} : CFh a a := fun _ _ _ _ _ _ _ _ => rfl
theorem RFh_rfl {a : mG} : RFh a a := ⟨fun _ _ _ _ => rfl, fun _ _ => rfl, Int.le_refl _⟩
theorem CFh_tr {a u v : mG} (h : CFh a u) (k : CFh u v) : CFh a v := fun j h1 h2 h3 h4 h5 h6 h7 => (k j h1 h2 h3 h4 h5 h6 h7).trans (h j h1 h2 h3 h4 h5 h6 h7)
theorem RFh_tr {a u v : mG} (h : RFh a u) (k : RFh u v) : RFh a v := ⟨fun j h1 h2 h3 => (k.1 j h1 h2 h3).trans (h.1 j h1 h2 h3), fun j hj => (k.2.1 j hj).trans (h.2.1 j hj), Int.le_trans h.2.2 k.2.2⟩
theorem RFh_2 {b u : mG} (h1 : ∀ j, j ≠ 89 → j ≠ 96 → j ≠ 97 → u.1 j = b.1 j) (h2 : ∀ k, ((111 ≤ k ∧ k < 235) ∨ 985 ≤ k) → u.1 89 k = b.1 89 k) (e : u.1 89 2 = b.1 89 2) : RFh b u := ⟨h1, h2, by rw [e]; exact Int.le_refl _⟩
theorem R_tail {a b : mG} {d x wh : Int32} (H : HSr 1 a.1 (b.1 89)) : rel (b1 (F_X2_clerkAt 1 a d) fun v18 => b1 (F_X2_write 1 wh x d v18 a) fun s20 => some (ci 1, s20)) (F_X12_isMoved_147 x d wh b) (fun τ υ => τ.1 = ci 1 ∧ υ.1 = ci 1 ∧ HSr 1 τ.2.1 (υ.2.1 89) ∧ (∀ j, j ≠ 4 → j ≠ 5 → τ.2.1 j = a.1 j) ∧ (∀ j, j ≠ 89 → υ.2.1 j = b.1 j) ∧ (∀ k, k ≠ 2 → (k < 235 ∨ 985 ≤ k) → υ.2.1 89 k = b.1 89 k) ∧ (b.1 89 2).toInt ≤ (υ.2.1 89 2).toInt) := by
  unfold F_X12_isMoved_147
  refine rel_b1 (R_clerkAt H) (fun u v e => ?_)
  subst e
  refine rel_b1 (R_write H) (fun s t q => rel_some ⟨rfl, rfl, q⟩)
def MQo (g : Nat) (a b : mG) (τ υ : Int32 × mG) : Prop := τ.1 = υ.1 ∧ PB τ.1 ∧ HSr 1 τ.2.1 (υ.2.1 89) ∧ CFh a τ.2 ∧ RFh b υ.2 ∧ υ.2.1 89 0 = b.1 89 0 ∧ (∀ k, 3 ≤ k → k < 111 → k ≠ 3 + g → k ≠ 15 + g → υ.2.1 89 k = b.1 89 k) ∧ PBz (υ.2.1 89 (3 + g)) ∧ (υ.2.1 89 (3 + g) = ci 0 → υ.2.1 89 (15 + g) = ci (-1))
theorem V_putG {s : mG} {n g c : Nat} {k v : Int32} (h1 : s.1 2 1 = cn 11) (h3 : s.1 2 3 = cn n) (hn : n ≤ 12) (hg : g < n) (hc : c < 11) (hk : k = cn c) : F_X10_put 2 (cn g) k v s = some (mu s.1 3 (g * 11 + c) v, s.2) :=
  V_put (t := 2) (r := g) (c := c) (n := n) (W := 11) rfl hk h1 h3 hg hc (by rw [al_G]; omega) (by omega)
theorem rm_nb : ∀ n, n < 13 → ∀ g, g < n → rm (cn g + ci 1) (cn n) = cn (if g + 1 < n then g + 1 else 0) := by decide +kernel
theorem V_hasKey {a : mG} {x : Int32} : F_X2_hasKey 1 a x = b1 (F_X2_keyOn 1 a x) fun v2 => if v2 = ci (-1) then some (ci 0) else some (ci 1) := rfl
/-- the hook, here and there; the key of him who goes is on none -/
def HKo (g : Nat) (a b : mG) (s : mG) (τ : Int32 × mG) : Prop := τ.2 = b ∧ ((τ.1 = ci (-1) ∧ s = a) ∨ s = (mu a.1 3 (g * 11 + 3) τ.1, a.2))
theorem R_51 {a b : mG} {n g : Nat} {x : Int32} (H : HSr 1 a.1 (b.1 89)) (h3 : a.1 2 3 = cn n) (hn : n ≤ 12) (hg : g < n) : rel (F_X6_hangKey_51 (cn g) x a) (F_X12_hangsOn_62 x b) (HKo g a b) := by
  have h1 : a.1 2 1 = cn 11 := H.1.2.1
  unfold F_X6_hangKey_51 F_X12_hangsOn_62
  rw [V_hasKey, b1_b1]
  refine rel_b1 (R_keyOn H h3 hn) (fun u v e => ?_)
  subst e
  by_cases h : u = ci (-1)
  · rw [if_pos h, if_pos h, b1_some, if_pos c0e0, V_putG h1 h3 hn hg (c := 3) (k := ci 3) (by decide) rfl, b1_some]
    exact rel_some ⟨rfl, Or.inr rfl⟩
  · rw [if_neg h, if_neg h, b1_some, if_neg c1n0]
    exact rel_some ⟨rfl, Or.inl ⟨rfl, rfl⟩⟩
theorem R_33 {a b : mG} {n g : Nat} {x : Int32} (H : HSr 1 a.1 (b.1 89)) (h3 : a.1 2 3 = cn n) (hn : n ≤ 12) (hg : g < n) : rel (F_X6_hangKey_33 (cn g) x a) (b1 (F_X12_keyOn b x) fun v16 => if v16 = ci (-1) then some (x, b) else F_X12_hangsOn_62 (cn g) b) (HKo g a b) := by
  have h1 : a.1 2 1 = cn 11 := H.1.2.1
  unfold F_X6_hangKey_33 F_X6_hangKey_50
  rw [V_hasKey, b1_b1]
  have q := R_keyOn (x := x) H h3 hn
  cases hC : F_X2_keyOn 1 a x with
  | none => exact rel_nl
  | some u =>
    cases hR : F_X12_keyOn b x with
    | none => exact rel_nr
    | some v =>
      have e := q u hC v hR
      subst e
      rw [b1_some, b1_some]
      by_cases h : u = ci (-1)
      · rw [if_pos h, if_pos h, b1_some, if_pos c0e0]
        unfold F_X6_hangKey_51
        rw [V_hasKey, hC, b1_some, if_pos h, b1_some, if_pos c0e0, V_putG h1 h3 hn hg (c := 3) (k := ci 3) (by decide) rfl, b1_some]
        exact rel_some ⟨rfl, Or.inr rfl⟩
      · rw [if_neg h, if_neg h, b1_some, if_neg c1n0]
        exact R_51 H h3 hn hg
theorem R_36 {a b : mG} {n g : Nat} {d T2 T3 : Int32} (H : HSr 1 a.1 (b.1 89)) (h3 : a.1 2 3 = cn n) (hn : n ≤ 12) (hg : g < n) (e2 : a.1 72 2 = T2) (e3 : a.1 72 3 = T3) (hk : b.1 89 (15 + g) = ci (-1)) (ho : b.1 89 (3 + g) = ci 1) : rel (F_X6_goes_36 (cn g) d a) (b2 (F_X12_hangsOn (cn g) T2 T3 b) fun v30 s29 => F_X12_isMoved_136 (cn g) (ci 0) d (c8 15 + cn g) v30 s29) (MQo g a b) := by
  have h112 : b.1 89 112 = cn n := by
    obtain ⟨⟨_, _, m, hm, g3, gc, _⟩, _⟩ := H
    rw [gc]; exact g3.symm.trans h3
  have x11 : a.1 1 11 = b.1 89 1 := H.2.2.2.2.2.2.2.2.2.2.2
  have fin : ∀ (a1 b1' s : mG) (τ : Int32 × mG), HSr 1 a1.1 (b1'.1 89) → (∀ j, j ≠ 1 → a1.1 j = a.1 j) → (∀ j, j ≠ 89 → b1'.1 j = b.1 j) → (∀ k, k ≠ 1 → b1'.1 89 k = b.1 89 k) → HKo g a1 b1' s τ → rel (F_X6_goes_50 (cn g) d s) (F_X12_isMoved_136 (cn g) (ci 0) d (c8 15 + cn g) τ.1 τ.2) (MQo g a b) := by
    intro a1 b1' s τ H1 ra rb rk hq
    obtain ⟨q1, q2⟩ := hq
    unfold F_X6_goes_50 F_X12_isMoved_136
    rw [show c8 15 + cn g = cn (15 + g) from cn_add (a := 15) (by omega), cn_nat (n := 15 + g) (by omega), q1]
    dsimp only
    rw [if_pos c0e0]
    have h31 : a1.1 2 3 = cn n := by rw [ra 2 (by decide)]; exact h3
    have Hs : HSr 1 s.1 (mu b1'.1 89 (15 + g) τ.1 89) ∧ ∀ j, j ≠ 3 → s.1 j = a1.1 j := by
      rcases q2 with ⟨q2, q3⟩ | q2
      · subst q3
        rw [mu_idd (by rw [rk _ (by omega), q2]; exact hk)]
        exact ⟨H1, fun _ _ => rfl⟩
      · subst q2
        exact ⟨HSr_put H1 h31 hg hn (by decide) rfl, fun j hj => mu_row hj⟩
    refine rel_rg (rel_mono (R_tail (b := (mu b1'.1 89 (15 + g) τ.1, b1'.2)) Hs.1) (fun τ' υ q => ?_))
    obtain ⟨p1, p2, p3, p4, p5, p6, p7⟩ := q
    have p7 : (mu b1'.1 89 (15 + g) τ.1 89 2).toInt ≤ (υ.2.1 89 2).toInt := p7
    rw [mu_cell (Or.inr (by omega)), rk 2 (by decide)] at p7
    have c89 : ∀ k, k ≠ 1 → k ≠ 2 → (k < 235 ∨ 985 ≤ k) → k ≠ 15 + g → υ.2.1 89 k = b.1 89 k := fun k h1 h2 h3 h4 => by
      rw [p6 k h2 h3]
      exact (mu_cellQ (Or.inr h4)).trans (rk k h1)
    refine ⟨p1.trans p2.symm, by rw [p1]; exact pb1, p3, fun j h1 h2 h3 h4 _ _ _ => ?_, ⟨fun j h1 _ _ => ?_, fun k hk => c89 k (by omega) (by omega) (by omega) (by omega), p7⟩, c89 0 (by omega) (by omega) (by omega) (by omega), fun k h1 h2 _ h4 => c89 k (by omega) (by omega) (by omega) h4, ?_, fun e => ?_⟩
    · rw [p4 j h3 h4, Hs.2 j h2, ra j h1]
    · rw [p5 j h1]
      exact (mu_rowQ h1).trans (rb j h1)
    · rw [c89 (3 + g) (by omega) (by omega) (by omega) (by omega), ho]; exact Or.inr rfl
    · rw [c89 (3 + g) (by omega) (by omega) (by omega) (by omega), ho] at e
      exact absurd e (by decide)
  unfold F_X6_goes_36 F_X12_hangsOn
  rw [V_isDrawn (k := 2) (e := ci 2) (by decide) (by decide), b2_some, V_drawR, b2_some, e2, x11]
  have H1 : HSr 1 (mu a.1 1 11 (nxD (b.1 89 1))) (mu b.1 89 1 (nxD (b.1 89 1)) 89) := HSr_num H (Or.inr (Or.inr (Or.inr ⟨rfl, rfl⟩)))
  have ra1 : ∀ j, j ≠ 1 → ((mu a.1 1 11 (nxD (b.1 89 1)), a.2) : mG).1 j = a.1 j := fun j hj => mu_rowQ hj
  have rb1 : ∀ j, j ≠ 89 → ((mu b.1 89 1 (nxD (b.1 89 1)), b.2) : mG).1 j = b.1 j := fun j hj => mu_rowQ hj
  have rk1 : ∀ k, k ≠ 1 → ((mu b.1 89 1 (nxD (b.1 89 1)), b.2) : mG).1 89 k = b.1 89 k := fun k hk => mu_cellQ (Or.inr hk)
  have y11 : ((mu a.1 1 11 (nxD (b.1 89 1)), a.2) : mG).1 1 11 = ((mu b.1 89 1 (nxD (b.1 89 1)), b.2) : mG).1 89 1 := mu_sameQ.trans mu_sameQ.symm
  have H1 : HSr 1 ((mu a.1 1 11 (nxD (b.1 89 1)), a.2) : mG).1 (((mu b.1 89 1 (nxD (b.1 89 1)), b.2) : mG).1 89) := H1
  generalize dvD (b.1 89 1) = dv1
  generalize ((mu a.1 1 11 (nxD (b.1 89 1)), a.2) : mG) = a1 at *
  generalize ((mu b.1 89 1 (nxD (b.1 89 1)), b.2) : mG) = b1' at *
  by_cases hc : T2 ≤ dv1
  · rw [if_pos hc, if_pos hc, if_pos c0e0]
    unfold F_X6_hangKey
    have e31 : a1.1 72 3 = T3 := by rw [ra1 72 (by decide)]; exact e3
    rw [V_isDrawn (k := 3) (e := ci 3) (by decide) (by decide), b2_some, V_drawR, b2_some, e31, y11]
    have H2 : HSr 1 (mu a1.1 1 11 (nxD (b1'.1 89 1))) (mu b1'.1 89 1 (nxD (b1'.1 89 1)) 89) := HSr_num H1 (Or.inr (Or.inr (Or.inr ⟨rfl, rfl⟩)))
    have ra2 : ∀ j, j ≠ 1 → ((mu a1.1 1 11 (nxD (b1'.1 89 1)), a1.2) : mG).1 j = a.1 j := fun j hj => (mu_rowQ hj).trans (ra1 j hj)
    have rb2 : ∀ j, j ≠ 89 → ((mu b1'.1 89 1 (nxD (b1'.1 89 1)), b1'.2) : mG).1 j = b.1 j := fun j hj => (mu_rowQ hj).trans (rb1 j hj)
    have rk2 : ∀ k, k ≠ 1 → ((mu b1'.1 89 1 (nxD (b1'.1 89 1)), b1'.2) : mG).1 89 k = b.1 89 k := fun k hk => (mu_cellQ (Or.inr hk)).trans (rk1 k hk)
    have H2 : HSr 1 ((mu a1.1 1 11 (nxD (b1'.1 89 1)), a1.2) : mG).1 (((mu b1'.1 89 1 (nxD (b1'.1 89 1)), b1'.2) : mG).1 89) := H2
    generalize hdv : dvD (b1'.1 89 1) = dv2
    generalize ((mu a1.1 1 11 (nxD (b1'.1 89 1)), a1.2) : mG) = a2 at *
    generalize ((mu b1'.1 89 1 (nxD (b1'.1 89 1)), b1'.2) : mG) = b2' at *
    have h32 : a2.1 2 3 = cn n := by rw [ra2 2 (by decide)]; exact h3
    have h122 : b2'.1 89 112 = cn n := by rw [rk2 112 (by decide)]; exact h112
    have wrap : ∀ {X : Option mG} {Y : Option (Int32 × mG)}, rel X Y (HKo g a2 b2') → rel (b1 X fun s16 => F_X6_goes_50 (cn g) d s16) (b2 Y fun v30 s29 => F_X12_isMoved_136 (cn g) (ci 0) d (c8 15 + cn g) v30 s29) (MQo g a b) := fun {X Y} hXY => by
      intro τ hτ υ hυ
      obtain ⟨s, hs, hτ⟩ := m_b1 hτ
      obtain ⟨v, t, ht, hυ⟩ := m_b2 hυ
      exact fin a2 b2' s (v, t) H2 ra2 rb2 rk2 (hXY s hs (v, t) ht) τ hτ υ hυ
    have n0 : ¬ b2'.1 89 112 = 0 := fun e => by
      have := (cn_inj (a := n) (b := 0) (by omega) (by decide)).mp (h122.symm.trans (e.trans (by decide)))
      omega
    unfold F_X12_hangsOn_29
    by_cases hs : T3 ≤ dv2
    · rw [if_pos hs, if_pos hs, if_pos c0e0, if_neg n0]
      dsimp only
      rw [if_pos c0e0]
      exact wrap (R_51 H2 h32 hn hg)
    · rw [if_neg hs, if_neg hs, if_neg c1n0, if_neg n0]
      dsimp only
      rw [if_neg c1n0, h122, rm_nb n (by omega) g hg, h32, cnu (by omega)]
      by_cases hl : g + 1 < n
      · rw [if_neg (fun q => absurd ((cn_le (by omega) (by omega)).mp q) (by omega)), if_pos hl]
        exact wrap (R_33 H2 h32 hn hg)
      · rw [if_pos ((cn_le (by omega) (by omega)).mpr (by omega)), if_neg hl]
        exact wrap (R_33 H2 h32 hn hg)
  · rw [if_neg hc, if_neg hc, if_neg c1n0, b2_some]
    exact fin a1 b1' a1 (ci (-1), b1') H1 ra1 rb1 rk1 ⟨rfl, Or.inl ⟨rfl, rfl⟩⟩
theorem R_goes {a b : mG} {n g : Nat} {T : Nat → Int32} (H : HSr 1 a.1 (b.1 89)) (h3 : a.1 2 3 = cn n) (hn : n ≤ 12) (hg : g < n) (hT : ∀ k, k < 5 → a.1 72 k = T k) (hk : b.1 89 (15 + g) = ci (-1)) (ho : b.1 89 (3 + g) = ci 0) : rel (F_X6_goes (cn g) a) (b2 (F_X12_draw (c16 1000) b) fun v18 s17 => if v18 < T 0 then b2 (F_X12_draw (c16 1000) s17) fun v22 s21 => if T 4 ≤ v22 then F_X12_isMoved_92 (cn g) (ci 0) (T 2) (T 3) (ci 1) s21 else F_X12_isMoved_92 (cn g) (ci 0) (T 2) (T 3) (ci 0) s21 else some (ci 0, s17)) (MQo g a b) := by
  have x11 : a.1 1 11 = b.1 89 1 := H.2.2.2.2.2.2.2.2.2.2.2
  unfold F_X6_goes
  rw [V_isDrawn (k := 0) (e := ci 0) (by decide) (by decide), b2_some, V_drawR, b2_some, hT 0 (by decide), x11]
  have H1 : HSr 1 (mu a.1 1 11 (nxD (b.1 89 1))) (mu b.1 89 1 (nxD (b.1 89 1)) 89) := HSr_num H (Or.inr (Or.inr (Or.inr ⟨rfl, rfl⟩)))
  by_cases hc : T 0 ≤ dvD (b.1 89 1)
  · rw [if_pos hc, if_pos c0e0, if_neg (Int32.not_lt.mpr hc)]
    have q89 : ∀ k, k ≠ 1 → mu b.1 89 1 (nxD (b.1 89 1)) 89 k = b.1 89 k := fun k hk => mu_cell (Or.inr hk)
    refine rel_some ⟨rfl, pb0, H1, fun j h1 _ _ _ _ _ _ => mu_rowQ h1, RFh_2 (fun j h1 _ _ => mu_rowQ h1) (fun k hk => q89 k (by omega)) (q89 2 (by decide)), q89 0 (by decide), fun k h1 _ _ _ => q89 k (by omega), ?_, fun _ => ?_⟩
    · show PBz (mu b.1 89 1 (nxD (b.1 89 1)) 89 (3 + g))
      rw [q89 _ (by omega), ho]; exact Or.inl rfl
    · show mu b.1 89 1 (nxD (b.1 89 1)) 89 (15 + g) = _
      rw [q89 _ (by omega)]; exact hk
  · rw [if_neg hc, if_neg c1n0, if_pos (Int32.not_le.mp hc)]
    have H1 : HSr 1 ((mu a.1 1 11 (nxD (b.1 89 1)), a.2) : mG).1 (((mu b.1 89 1 (nxD (b.1 89 1)), b.2) : mG).1 89) := H1
    have ra1 : ∀ j, j ≠ 1 → ((mu a.1 1 11 (nxD (b.1 89 1)), a.2) : mG).1 j = a.1 j := fun j hj => mu_rowQ hj
    have rb1 : ∀ j, j ≠ 89 → ((mu b.1 89 1 (nxD (b.1 89 1)), b.2) : mG).1 j = b.1 j := fun j hj => mu_rowQ hj
    have rk1 : ∀ k, k ≠ 1 → ((mu b.1 89 1 (nxD (b.1 89 1)), b.2) : mG).1 89 k = b.1 89 k := fun k hk => mu_cellQ (Or.inr hk)
    have y1 : ((mu a.1 1 11 (nxD (b.1 89 1)), a.2) : mG).1 1 11 = ((mu b.1 89 1 (nxD (b.1 89 1)), b.2) : mG).1 89 1 := mu_sameQ.trans mu_sameQ.symm
    generalize ((mu a.1 1 11 (nxD (b.1 89 1)), a.2) : mG) = a1 at *
    generalize ((mu b.1 89 1 (nxD (b.1 89 1)), b.2) : mG) = b1' at *
    have h31 : a1.1 2 3 = cn n := by rw [ra1 2 (by decide)]; exact h3
    rw [V_putG (n := n) (g := g) (c := 2) (k := ci 2) H1.1.2.1 h31 hn hg (by decide) rfl, b1_some]
    have H2 : HSr 1 ((mu a1.1 3 (g * 11 + 2) (ci 1), a1.2) : mG).1 (mu b1'.1 89 (3 + g) (ci 1) 89) := HSr_put H1 h31 hg hn (by decide) rfl
    have ra2 : ∀ j, j ≠ 1 → j ≠ 3 → ((mu a1.1 3 (g * 11 + 2) (ci 1), a1.2) : mG).1 j = a.1 j := fun j h1 h2 => (mu_rowQ h2).trans (ra1 j h1)
    have y2 : ((mu a1.1 3 (g * 11 + 2) (ci 1), a1.2) : mG).1 1 11 = b1'.1 89 1 := (congrFun (mu_rowQ (by decide)) 11).trans y1
    generalize ((mu a1.1 3 (g * 11 + 2) (ci 1), a1.2) : mG) = a2 at *
    rw [V_isDrawn (k := 4) (e := ci 4) (by decide) (by decide), b2_some, V_drawR, b2_some, y2, show a2.1 72 4 = T 4 by rw [ra2 72 (by decide) (by decide)]; exact hT 4 (by decide)]
    have H3 : HSr 1 ((mu a2.1 1 11 (nxD (b1'.1 89 1)), a2.2) : mG).1 (mu ((mu b1'.1 89 1 (nxD (b1'.1 89 1)), b1'.2) : mG).1 89 (3 + g) (ci 1) 89) := by
      show HSr 1 (mu a2.1 1 11 (nxD (b1'.1 89 1))) (mu (mu b1'.1 89 1 (nxD (b1'.1 89 1))) 89 (3 + g) (ci 1) 89)
      rw [mu_comm (i := 89) (j := 89) (k := 1) (l := 3 + g) (Or.inr (by omega))]
      exact HSr_num H2 (Or.inr (Or.inr (Or.inr ⟨rfl, rfl⟩)))
    have ra3 : ∀ j, j ≠ 1 → j ≠ 3 → ((mu a2.1 1 11 (nxD (b1'.1 89 1)), a2.2) : mG).1 j = a.1 j := fun j h1 h2 => (mu_rowQ h1).trans (ra2 j h1 h2)
    have rb3 : ∀ j, j ≠ 89 → ((mu b1'.1 89 1 (nxD (b1'.1 89 1)), b1'.2) : mG).1 j = b.1 j := fun j hj => (mu_rowQ hj).trans (rb1 j hj)
    have rk3 : ∀ k, k ≠ 1 → ((mu b1'.1 89 1 (nxD (b1'.1 89 1)), b1'.2) : mG).1 89 k = b.1 89 k := fun k hk => (mu_cellQ (Or.inr hk)).trans (rk1 k hk)
    generalize dvD (b1'.1 89 1) = dv2
    generalize ((mu a2.1 1 11 (nxD (b1'.1 89 1)), a2.2) : mG) = a3 at *
    generalize ((mu b1'.1 89 1 (nxD (b1'.1 89 1)), b1'.2) : mG) = b3 at *
    have fin : ∀ d : Int32, rel (F_X6_goes_36 (cn g) d a3) (F_X12_isMoved_92 (cn g) (ci 0) (T 2) (T 3) d b3) (MQo g a b) := fun d => by
      unfold F_X12_isMoved_92 F_X12_isMoved_110
      rw [if_pos c0e0, show ci 3 + cn g = cn (3 + g) from cn_add (a := 3) (by omega), cn_nat (n := 3 + g) (by omega)]
      refine rel_rg ?_
      dsimp only
      rw [if_pos c0e0]
      have rb : ∀ j, j ≠ 89 → ((mu b3.1 89 (3 + g) (ci 1), b3.2) : mG).1 j = b.1 j := fun j hj => (mu_rowQ hj).trans (rb3 j hj)
      have rk : ∀ k, k ≠ 1 → k ≠ 3 + g → ((mu b3.1 89 (3 + g) (ci 1), b3.2) : mG).1 89 k = b.1 89 k := fun k h1 h2 => (mu_cellQ (Or.inr h2)).trans (rk3 k h1)
      have ro : ((mu b3.1 89 (3 + g) (ci 1), b3.2) : mG).1 89 (3 + g) = ci 1 := mu_sameQ
      have H4 : HSr 1 a3.1 (((mu b3.1 89 (3 + g) (ci 1), b3.2) : mG).1 89) := H3
      generalize ((mu b3.1 89 (3 + g) (ci 1), b3.2) : mG) = b4 at *
      refine rel_mono (R_36 (n := n) H4 (by rw [ra3 2 (by decide) (by decide)]; exact h3) hn hg (by rw [ra3 72 (by decide) (by decide)]; exact hT 2 (by decide)) (by rw [ra3 72 (by decide) (by decide)]; exact hT 3 (by decide)) (by rw [rk _ (by omega) (by omega)]; exact hk) ro) (fun τ υ q => ?_)
      obtain ⟨q1, q2, q3, q4, q5, q6, q7, q8, q9⟩ := q
      exact ⟨q1, q2, q3, CFh_tr (fun j h1 h2 _ _ _ _ _ => ra3 j h1 h2) q4, RFh_tr (RFh_2 (fun j h1 _ _ => rb j h1) (fun k hk => rk k (by omega) (by omega)) (rk 2 (by omega) (by omega))) q5, q6.trans (rk 0 (by omega) (by omega)), fun k h1 h2 h3 h4 => (q7 k h1 h2 h3 h4).trans (rk k (by omega) h3), q8, q9⟩
    by_cases hf : T 4 ≤ dv2
    · rw [if_pos hf, if_pos hf, if_pos c0e0]; exact fin _
    · rw [if_neg hf, if_neg hf, if_neg c1n0]; exact fin _
theorem R_comes {a b : mG} {n g : Nat} {T : Nat → Int32} (H : HSr 1 a.1 (b.1 89)) (h3 : a.1 2 3 = cn n) (hn : n ≤ 12) (hg : g < n) (hT : ∀ k, k < 5 → a.1 72 k = T k) (ho : b.1 89 (3 + g) = ci 1) : rel (F_X6_comes (cn g) a) (b2 (F_X12_draw (c16 1000) b) fun v18 s17 => if v18 < T 1 then b2 (F_X12_draw (c16 1000) s17) fun v22 s21 => if T 4 ≤ v22 then F_X12_isMoved_92 (cn g) (ci 1) (T 2) (T 3) (ci 1) s21 else F_X12_isMoved_92 (cn g) (ci 1) (T 2) (T 3) (ci 0) s21 else some (ci 0, s17)) (MQo g a b) := by
  have x11 : a.1 1 11 = b.1 89 1 := H.2.2.2.2.2.2.2.2.2.2.2
  unfold F_X6_comes
  rw [V_isDrawn (k := 1) (e := ci 1) (by decide) (by decide), b2_some, V_drawR, b2_some, hT 1 (by decide), x11]
  have H1 : HSr 1 (mu a.1 1 11 (nxD (b.1 89 1))) (mu b.1 89 1 (nxD (b.1 89 1)) 89) := HSr_num H (Or.inr (Or.inr (Or.inr ⟨rfl, rfl⟩)))
  by_cases hc : T 1 ≤ dvD (b.1 89 1)
  · rw [if_pos hc, if_pos c0e0, if_neg (Int32.not_lt.mpr hc)]
    have q89 : ∀ k, k ≠ 1 → mu b.1 89 1 (nxD (b.1 89 1)) 89 k = b.1 89 k := fun k hk => mu_cell (Or.inr hk)
    refine rel_some ⟨rfl, pb0, H1, fun j h1 _ _ _ _ _ _ => mu_rowQ h1, RFh_2 (fun j h1 _ _ => mu_rowQ h1) (fun k hk => q89 k (by omega)) (q89 2 (by decide)), q89 0 (by decide), fun k h1 _ _ _ => q89 k (by omega), ?_, fun e => ?_⟩
    · show PBz (mu b.1 89 1 (nxD (b.1 89 1)) 89 (3 + g))
      rw [q89 _ (by omega), ho]; exact Or.inr rfl
    · have e : mu b.1 89 1 (nxD (b.1 89 1)) 89 (3 + g) = ci 0 := e
      rw [q89 _ (by omega), ho] at e
      exact absurd e (by decide)
  · rw [if_neg hc, if_neg c1n0, if_pos (Int32.not_le.mp hc)]
    have H1 : HSr 1 ((mu a.1 1 11 (nxD (b.1 89 1)), a.2) : mG).1 (((mu b.1 89 1 (nxD (b.1 89 1)), b.2) : mG).1 89) := H1
    have ra1 : ∀ j, j ≠ 1 → ((mu a.1 1 11 (nxD (b.1 89 1)), a.2) : mG).1 j = a.1 j := fun j hj => mu_rowQ hj
    have rb1 : ∀ j, j ≠ 89 → ((mu b.1 89 1 (nxD (b.1 89 1)), b.2) : mG).1 j = b.1 j := fun j hj => mu_rowQ hj
    have rk1 : ∀ k, k ≠ 1 → ((mu b.1 89 1 (nxD (b.1 89 1)), b.2) : mG).1 89 k = b.1 89 k := fun k hk => mu_cellQ (Or.inr hk)
    have y1 : ((mu a.1 1 11 (nxD (b.1 89 1)), a.2) : mG).1 1 11 = ((mu b.1 89 1 (nxD (b.1 89 1)), b.2) : mG).1 89 1 := mu_sameQ.trans mu_sameQ.symm
    generalize ((mu a.1 1 11 (nxD (b.1 89 1)), a.2) : mG) = a1 at *
    generalize ((mu b.1 89 1 (nxD (b.1 89 1)), b.2) : mG) = b1' at *
    have h31 : a1.1 2 3 = cn n := by rw [ra1 2 (by decide)]; exact h3
    rw [V_putG (n := n) (g := g) (c := 2) (k := ci 2) H1.1.2.1 h31 hn hg (by decide) rfl, b1_some]
    have H2 : HSr 1 ((mu a1.1 3 (g * 11 + 2) (ci 0), a1.2) : mG).1 (mu b1'.1 89 (3 + g) (ci 0) 89) := HSr_put H1 h31 hg hn (by decide) rfl
    have ra2 : ∀ j, j ≠ 1 → j ≠ 3 → ((mu a1.1 3 (g * 11 + 2) (ci 0), a1.2) : mG).1 j = a.1 j := fun j h1 h2 => (mu_rowQ h2).trans (ra1 j h1)
    have y2 : ((mu a1.1 3 (g * 11 + 2) (ci 0), a1.2) : mG).1 1 11 = b1'.1 89 1 := (congrFun (mu_rowQ (by decide)) 11).trans y1
    generalize ((mu a1.1 3 (g * 11 + 2) (ci 0), a1.2) : mG) = a2 at *
    have h32 : a2.1 2 3 = cn n := by rw [ra2 2 (by decide) (by decide)]; exact h3
    rw [V_putG (n := n) (g := g) (c := 3) (k := ci 3) H2.1.2.1 h32 hn hg (by decide) rfl, b1_some]
    have H3 : HSr 1 ((mu a2.1 3 (g * 11 + 3) (ci (-1)), a2.2) : mG).1 (mu (mu b1'.1 89 (3 + g) (ci 0)) 89 (15 + g) (ci (-1)) 89) := HSr_put H2 h32 hg hn (by decide) rfl
    have ra3 : ∀ j, j ≠ 1 → j ≠ 3 → ((mu a2.1 3 (g * 11 + 3) (ci (-1)), a2.2) : mG).1 j = a.1 j := fun j h1 h2 => (mu_rowQ h2).trans (ra2 j h1 h2)
    have y3 : ((mu a2.1 3 (g * 11 + 3) (ci (-1)), a2.2) : mG).1 1 11 = b1'.1 89 1 := (congrFun (mu_rowQ (by decide)) 11).trans y2
    generalize ((mu a2.1 3 (g * 11 + 3) (ci (-1)), a2.2) : mG) = a3 at *
    rw [V_isDrawn (k := 4) (e := ci 4) (by decide) (by decide), b2_some, V_drawR, b2_some, y3, show a3.1 72 4 = T 4 by rw [ra3 72 (by decide) (by decide)]; exact hT 4 (by decide)]
    have H4 : HSr 1 ((mu a3.1 1 11 (nxD (b1'.1 89 1)), a3.2) : mG).1 (mu (mu ((mu b1'.1 89 1 (nxD (b1'.1 89 1)), b1'.2) : mG).1 89 (3 + g) (ci 0)) 89 (15 + g) (ci (-1)) 89) := by
      show HSr 1 (mu a3.1 1 11 (nxD (b1'.1 89 1))) (mu (mu (mu b1'.1 89 1 (nxD (b1'.1 89 1))) 89 (3 + g) (ci 0)) 89 (15 + g) (ci (-1)) 89)
      rw [mu_comm (D := b1'.1) (i := 89) (j := 89) (k := 1) (l := 3 + g) (Or.inr (by omega)), mu_comm (i := 89) (j := 89) (k := 1) (l := 15 + g) (Or.inr (by omega))]
      exact HSr_num H3 (Or.inr (Or.inr (Or.inr ⟨rfl, rfl⟩)))
    have ra4 : ∀ j, j ≠ 1 → j ≠ 3 → ((mu a3.1 1 11 (nxD (b1'.1 89 1)), a3.2) : mG).1 j = a.1 j := fun j h1 h2 => (mu_rowQ h1).trans (ra3 j h1 h2)
    have rb4 : ∀ j, j ≠ 89 → ((mu b1'.1 89 1 (nxD (b1'.1 89 1)), b1'.2) : mG).1 j = b.1 j := fun j hj => (mu_rowQ hj).trans (rb1 j hj)
    have rk4 : ∀ k, k ≠ 1 → ((mu b1'.1 89 1 (nxD (b1'.1 89 1)), b1'.2) : mG).1 89 k = b.1 89 k := fun k hk => (mu_cellQ (Or.inr hk)).trans (rk1 k hk)
    generalize dvD (b1'.1 89 1) = dv2
    generalize ((mu a3.1 1 11 (nxD (b1'.1 89 1)), a3.2) : mG) = a4 at *
    generalize ((mu b1'.1 89 1 (nxD (b1'.1 89 1)), b1'.2) : mG) = b4 at *
    have fin : ∀ d : Int32, rel (F_X6_comes_49 (cn g) d a4) (F_X12_isMoved_92 (cn g) (ci 1) (T 2) (T 3) d b4) (MQo g a b) := fun d => by
      unfold F_X12_isMoved_92 F_X12_isMoved_110 F_X12_isMoved_136 F_X6_comes_49
      rw [if_neg c1n0, show ci 3 + cn g = cn (3 + g) from cn_add (a := 3) (by omega), cn_nat (n := 3 + g) (by omega)]
      refine rel_rg ?_
      dsimp only
      rw [if_neg c1n0, show c8 15 + cn g = cn (15 + g) from cn_add (a := 15) (by omega), cn_nat (n := 15 + g) (by omega)]
      refine rel_rg ?_
      rw [if_neg c1n0]
      have rb : ∀ j, j ≠ 89 → ((mu (mu b4.1 89 (3 + g) (ci 0)) 89 (15 + g) (ci (-1)), b4.2) : mG).1 j = b.1 j := fun j hj => (mu_rowQ hj).trans ((mu_row hj).trans (rb4 j hj))
      have rk : ∀ k, k ≠ 1 → k ≠ 3 + g → k ≠ 15 + g → ((mu (mu b4.1 89 (3 + g) (ci 0)) 89 (15 + g) (ci (-1)), b4.2) : mG).1 89 k = b.1 89 k := fun k h1 h2 h3 => (mu_cellQ (Or.inr h3)).trans ((mu_cell (Or.inr h2)).trans (rk4 k h1))
      have ro : ((mu (mu b4.1 89 (3 + g) (ci 0)) 89 (15 + g) (ci (-1)), b4.2) : mG).1 89 (3 + g) = ci 0 := (mu_cellQ (Or.inr (by omega))).trans mu_same
      have rkey : ((mu (mu b4.1 89 (3 + g) (ci 0)) 89 (15 + g) (ci (-1)), b4.2) : mG).1 89 (15 + g) = ci (-1) := mu_sameQ
      have H5 : HSr 1 a4.1 (((mu (mu b4.1 89 (3 + g) (ci 0)) 89 (15 + g) (ci (-1)), b4.2) : mG).1 89) := H4
      generalize ((mu (mu b4.1 89 (3 + g) (ci 0)) 89 (15 + g) (ci (-1)), b4.2) : mG) = b5 at *
      refine rel_mono (R_tail H5) (fun τ υ q => ?_)
      obtain ⟨p1, p2, p3, p4, p5, p6, p7⟩ := q
      rw [rk 2 (by decide) (by omega) (by omega)] at p7
      have c89 : ∀ k, k ≠ 1 → k ≠ 2 → (k < 235 ∨ 985 ≤ k) → k ≠ 3 + g → k ≠ 15 + g → υ.2.1 89 k = b.1 89 k := fun k h1 h2 h3 h4 h5 => (p6 k h2 h3).trans (rk k h1 h4 h5)
      refine ⟨p1.trans p2.symm, by rw [p1]; exact pb1, p3, fun j h1 h2 h3 h4 _ _ _ => (p4 j h3 h4).trans (ra4 j h1 h2), ⟨fun j h1 _ _ => (p5 j h1).trans (rb j h1), fun k hk => c89 k (by omega) (by omega) (by omega) (by omega) (by omega), p7⟩, c89 0 (by omega) (by omega) (by omega) (by omega) (by omega), fun k h1 h2 h4 h5 => c89 k (by omega) (by omega) (by omega) h4 h5, ?_, fun _ => ?_⟩
      · rw [p6 (3 + g) (by omega) (by omega), ro]; exact Or.inl rfl
      · rw [p6 (15 + g) (by omega) (by omega), rkey]
    by_cases hf : T 4 ≤ dv2
    · rw [if_pos hf, if_pos hf, if_pos c0e0]; exact fin _
    · rw [if_neg hf, if_neg hf, if_neg c1n0]; exact fin _
end
