/-! 5z4.eval -/
section
noncomputable section
/-! WHAT THE CODE OF A LAW COMES TO: a pile, its top first -/
theorem pk_bw {σ ρ : Type} {o : Option (σ ⊕ ρ)} {k : σ → Option ρ} {Q : ρ → Prop} (h : pk o (se (fun v => pk (k v) Q) Q)) : pk (bw o k) Q := fun τ e => by
  cases o with
  | none => cases e
  | some s =>
    cases s with
    | inl v => exact (h _ rfl : pk (k v) Q) τ e
    | inr a => exact Option.some.inj e ▸ (h _ rfl : Q a)
theorem t_div {x c : Int32} {m d : Int} (hx : x.toInt = m) (hc : c.toInt = d) (h0 : 0 ≤ m) (hd : 0 < d) : (x / c).toInt = m / d := by
  subst hx; subst hc
  have h1 : x.toInt / c.toInt ≤ x.toInt := Int.ediv_le_self _ h0
  have h2 : 0 ≤ x.toInt / c.toInt := Int.ediv_nonneg h0 (by omega)
  have h3 := @t_lt x
  rw [Int32.toInt_div, Int.tdiv_eq_ediv_of_nonneg h0]
  exact Int.bmod_eq_of_le (by omega) (by omega)
theorem t_rm {x c : Int32} {m d : Int} (hx : x.toInt = m) (hc : c.toInt = d) (h0 : 0 ≤ m) (hd : 0 < d) : (rm x c).toInt = m % d := by
  have e := t_div hx hc h0 hd
  have h1 : m / d * d ≤ m := Int.ediv_mul_le m (by omega)
  have h2 : 0 ≤ m / d * d := Int.mul_nonneg (Int.ediv_nonneg h0 (by omega)) (by omega)
  have h3 := @t_lt x
  have e2 := r_mul e hc (by omega) (by omega)
  show (x - x / c * c).toInt = m % d
  rw [r_sub hx e2 (by omega) (by omega), Int.emod_def, Int.mul_comm]
def op2 (k a b : Int32) : Int32 := if k = ci 23 then a + b else if k = ci 24 then a - b else if k = ci 25 then a * b else if k = ci 26 then a ||| b else if k = ci 27 then (if b ≤ a then ci 0 else ci 1) else if k = ci 28 then (if a = b then ci 1 else ci 0) else if k = ci 29 then (if a ≤ b then ci 0 else ci 1) else if k = ci 30 then a ||| b else if k = ci 31 then a &&& b else a ||| b
theorem V_both {s : mG} {k a b : Int32} : F_X12_both s k a b = some (op2 k a b) := by
  unfold F_X12_both F_X12_both_101 op2
  repeat' (first | rfl | split)
def ev1 (f : Nat → Int32) (k v : Int32) (st : List Int32) : List Int32 :=
  if k.toInt < 23 then (if k = 0 then v else f k.toNatClampNeg) :: st
  else if k.toInt = 26 then (match st with
    | x :: r => (x / v) :: r
    | [] => [])
  else if k.toInt = 30 then (match st with
    | x :: r => (ci 1 - x) :: r
    | [] => [])
  else match st with
    | y :: x :: r => op2 k x y :: r
    | r => r
def evs (c f : Nat → Int32) : Nat → Nat → List Int32 → List Int32
  | _, 0, st => st
  | k, n + 1, st => evs c f (k + 1) n (ev1 f (c (2 * k)) (c (2 * k + 1)) st)
def PBz (x : Int32) : Prop := x = ci 0 ∨ x = ci 1
def tyd : List Bool → List Int32 → Prop
  | [], [] => True
  | b :: ts, x :: st => (b = true → PBz x) ∧ tyd ts st
  | [], _ :: _ => False
  | _ :: _, [] => False
theorem tyd_len : ∀ {ts : List Bool} {st : List Int32}, tyd ts st → st.length = ts.length := by
  intro ts
  induction ts with
  | nil =>
    intro st h
    cases st with
    | nil => rfl
    | cons x r => cases h
  | cons b ts ih =>
    intro st h
    cases st with
    | nil => cases h
    | cons x r => simp [ih h.2]
theorem tyd_1 {b : Bool} {ts : List Bool} {st : List Int32} (h : tyd (b :: ts) st) : ∃ x r, st = x :: r ∧ (b = true → PBz x) ∧ tyd ts r := by
  cases st with
  | nil => cases h
  | cons x r => exact ⟨x, r, rfl, h.1, h.2⟩
theorem i32_of {k : Int32} {n : Int} (h : k.toInt = n) (h1 : -2147483648 ≤ n) (h2 : n < 2147483648) : k = ci n := Int32.toInt_inj.mp (by rw [h, t_ci h1 h2])
theorem op2_ty {k x y : Int32} {a b : Bool} (h23 : 23 ≤ k.toInt) (ha : a = true → PBz y) (hb : b = true → PBz x) (h : opT k a b = true) : PBz (op2 k x y) := by
  unfold opT at h
  by_cases h1 : 27 ≤ k.toInt ∧ k.toInt ≤ 29
  · have e : k = ci 27 ∨ k = ci 28 ∨ k = ci 29 := by
      have : k.toInt = 27 ∨ k.toInt = 28 ∨ k.toInt = 29 := by omega
      rcases this with e | e | e
      · exact Or.inl (i32_of e (by decide) (by decide))
      · exact Or.inr (Or.inl (i32_of e (by decide) (by decide)))
      · exact Or.inr (Or.inr (i32_of e (by decide) (by decide)))
    rcases e with e | e | e <;> subst e
    · unfold op2
      rw [if_neg (by decide), if_neg (by decide), if_neg (by decide), if_neg (by decide), if_pos rfl]
      split
      · exact Or.inl rfl
      · exact Or.inr rfl
    · unfold op2
      rw [if_neg (by decide), if_neg (by decide), if_neg (by decide), if_neg (by decide), if_neg (by decide), if_pos rfl]
      split
      · exact Or.inr rfl
      · exact Or.inl rfl
    · unfold op2
      rw [if_neg (by decide), if_neg (by decide), if_neg (by decide), if_neg (by decide), if_neg (by decide), if_neg (by decide), if_pos rfl]
      split
      · exact Or.inl rfl
      · exact Or.inr rfl
  · rw [if_neg h1] at h
    by_cases h2 : k.toInt = 31 ∨ k.toInt = 32
    · rw [if_pos h2] at h
      have h3 : a = true ∧ b = true := by
        cases a <;> cases b <;> simp at h ⊢
      have p := ha h3.1
      have q := hb h3.2
      rcases h2 with e | e
      · have e := i32_of e (by decide) (by decide)
        subst e
        unfold op2
        rw [if_neg (by decide), if_neg (by decide), if_neg (by decide), if_neg (by decide), if_neg (by decide), if_neg (by decide), if_neg (by decide), if_neg (by decide), if_pos rfl]
        rcases p with e | e <;> rcases q with e2 | e2 <;> rw [e, e2] <;> unfold PBz <;> decide
      · have e := i32_of e (by decide) (by decide)
        subst e
        unfold op2
        rw [if_neg (by decide), if_neg (by decide), if_neg (by decide), if_neg (by decide), if_neg (by decide), if_neg (by decide), if_neg (by decide), if_neg (by decide), if_neg (by decide)]
        rcases p with e | e <;> rcases q with e2 | e2 <;> rw [e, e2] <;> unfold PBz <;> decide
    · rw [if_neg h2] at h; cases h
/-- the kinds of a step -/
theorem stpT_cases {k v : Int32} {ts m : List Bool} (h : stpT k v ts = some m) :
    (k.toInt < 23 ∧ 0 ≤ k.toInt ∧ k.toInt < 10 ∧ ts.length < 64 ∧ m = false :: ts) ∨ (k.toInt = 26 ∧ v ≠ 0 ∧ ∃ x r, ts = x :: r ∧ m = false :: r) ∨ (k.toInt = 30 ∧ ∃ x r, ts = x :: r ∧ m = x :: r) ∨ (23 ≤ k.toInt ∧ k.toInt ≠ 26 ∧ k.toInt ≠ 30 ∧ ∃ x y r, ts = x :: y :: r ∧ m = opT k x y :: r) := by
  unfold stpT at h
  by_cases h1 : k.toInt < 23
  · rw [if_pos h1] at h
    by_cases h2 : 0 ≤ k.toInt ∧ k.toInt < 10 ∧ ts.length < 64
    · rw [if_pos h2] at h
      exact Or.inl ⟨h1, h2.1, h2.2.1, h2.2.2, (Option.some.inj h).symm⟩
    · rw [if_neg h2] at h; cases h
  rw [if_neg h1] at h
  by_cases h2 : k.toInt = 26
  · rw [if_pos h2] at h
    cases ts with
    | nil => cases h
    | cons x r =>
      dsimp only at h
      by_cases h3 : v = 0
      · rw [if_pos h3] at h; cases h
      · rw [if_neg h3] at h
        exact Or.inr (Or.inl ⟨h2, h3, x, r, rfl, (Option.some.inj h).symm⟩)
  rw [if_neg h2] at h
  by_cases h3 : k.toInt = 30
  · rw [if_pos h3] at h
    cases ts with
    | nil => cases h
    | cons x r => exact Or.inr (Or.inr (Or.inl ⟨h3, x, r, rfl, (Option.some.inj h).symm⟩))
  rw [if_neg h3] at h
  cases ts with
  | nil => cases h
  | cons x r =>
    cases r with
    | nil => cases h
    | cons y r => exact Or.inr (Or.inr (Or.inr ⟨by omega, h2, h3, x, y, r, rfl, (Option.some.inj h).symm⟩))
theorem ev1_push {f : Nat → Int32} {k v : Int32} {st : List Int32} (h : k.toInt < 23) : ev1 f k v st = (if k = 0 then v else f k.toNatClampNeg) :: st := by
  unfold ev1; rw [if_pos h]
theorem ev1_part {f : Nat → Int32} {k v x : Int32} {r : List Int32} (h : k.toInt = 26) : ev1 f k v (x :: r) = (x / v) :: r := by
  unfold ev1; rw [if_neg (by omega), if_pos h]
theorem ev1_not {f : Nat → Int32} {k v x : Int32} {r : List Int32} (h : k.toInt = 30) : ev1 f k v (x :: r) = (ci 1 - x) :: r := by
  unfold ev1; rw [if_neg (by omega), if_neg (by omega), if_pos h]
theorem ev1_bin {f : Nat → Int32} {k v x y : Int32} {r : List Int32} (h1 : 23 ≤ k.toInt) (h2 : k.toInt ≠ 26) (h3 : k.toInt ≠ 30) : ev1 f k v (y :: x :: r) = op2 k x y :: r := by
  unfold ev1; rw [if_neg (by omega), if_neg h2, if_neg h3]
theorem ev1_ty {f : Nat → Int32} {k v : Int32} {ts m : List Bool} {st : List Int32} (h : stpT k v ts = some m) (ht : tyd ts st) : tyd m (ev1 f k v st) := by
  rcases stpT_cases h with ⟨h1, _, _, _, e⟩ | ⟨h1, _, x, r, e1, e⟩ | ⟨h1, x, r, e1, e⟩ | ⟨h1, h2, h3, x, y, r, e1, e⟩
  · subst e
    rw [ev1_push h1]
    exact ⟨fun q => (by cases q), ht⟩
  · subst e; subst e1
    obtain ⟨a, q, e2, _, t2⟩ := tyd_1 ht
    subst e2
    rw [ev1_part h1]
    exact ⟨fun q => (by cases q), t2⟩
  · subst e; subst e1
    obtain ⟨a, q, e2, t1, t2⟩ := tyd_1 ht
    subst e2
    rw [ev1_not h1]
    refine ⟨fun q => ?_, t2⟩
    rcases t1 q with e | e
    · rw [e]; exact Or.inr (by decide)
    · rw [e]; exact Or.inl (by decide)
  · subst e; subst e1
    obtain ⟨a, q, e2, t1, t2⟩ := tyd_1 ht
    subst e2
    obtain ⟨a2, q2, e2, t3, t4⟩ := tyd_1 t2
    subst e2
    rw [ev1_bin h1 h2 h3]
    exact ⟨fun q => op2_ty h1 t1 t3 q, t4⟩
/-- the pile lies in a row -/
def SKr (D : Nat → Int32) : List Int32 → Prop
  | [] => True
  | x :: r => D r.length = x ∧ SKr D r
theorem SKr_set {D D' : Nat → Int32} : ∀ {st : List Int32}, SKr D st → (∀ i, i < st.length → D' i = D i) → SKr D' st := by
  intro st
  induction st with
  | nil => intro _ _; trivial
  | cons x r ih =>
    intro h k
    exact ⟨(k r.length (by simp)).trans h.1, ih h.2 (fun i hi => k i (by simp; omega))⟩
theorem SKr_mu {D : Nat → Nat → Int32} {j : Nat} {x : Int32} {r : List Int32} (h : SKr (D j) r) : SKr (mu D j r.length x j) (x :: r) :=
  ⟨mu_same, SKr_set h (fun i hi => mu_cell (Or.inr (by omega)))⟩
theorem Rt_len {c : Nat → Int32} : ∀ (n k : Nat) (h h' : List Bool), Rt c k n h h' → h.length ≤ 64 → h'.length ≤ 64 := by
  intro n
  induction n with
  | zero => intro k h h' q hl; cases (show h = h' from q); exact hl
  | succ n ih =>
    intro k h h' q hl
    obtain ⟨m, q1, q2⟩ := q
    refine ih (k + 1) m h' q2 ?_
    rcases stpT_cases q1 with ⟨_, _, _, h4, e⟩ | ⟨_, _, x, r, e1, e⟩ | ⟨_, x, r, e1, e⟩ | ⟨_, _, _, x, y, r, e1, e⟩
    · subst e; simp; omega
    · subst e; subst e1; simpa using hl
    · subst e; subst e1; simpa using hl
    · subst e; subst e1; simp at hl ⊢; omega
theorem Rt_ty {c f : Nat → Int32} : ∀ (n k : Nat) (ts ts' : List Bool) (st : List Int32), Rt c k n ts ts' → tyd ts st → tyd ts' (evs c f k n st) := by
  intro n
  induction n with
  | zero => intro k ts ts' st q ht; cases (show ts = ts' from q); exact ht
  | succ n ih =>
    intro k ts ts' st q ht
    obtain ⟨m, q1, q2⟩ := q
    exact ih (k + 1) m ts' _ q2 (ev1_ty q1 ht)
theorem CT_bw {x1 x3 x4 x5 : Int32} {b : mG} : F_X12_comesTo_L6 x1 x3 x4 x5 b = bw (F_X12_comesTo_B6 x1 x3 x4 x5 b) (fun v => F_X12_comesTo_L6 v.1 v.2.1 v.2.2.1 v.2.2.2.1 v.2.2.2.2) := whl_bw _ _
theorem cn_d1 {n : Nat} (h : n + 1 < 2147483648) : cn (n + 1) - ci 1 = cn n := (cn_sub (a := n + 1) (b := 1) (by omega) (by omega)).trans (by rw [Nat.add_sub_cancel])
theorem cn_d2 {n : Nat} (h : n + 1 < 2147483648) : cn (n + 1) + ci (-1) = cn n := Int32.toInt_inj.mp (by
  rw [t_dn (by rw [t_cn (by omega)]; omega), t_cn (by omega), t_cn (by omega)]; omega)
theorem nle_t {a : Int32} {c : Int32} {m : Int} (hc : c.toInt = m) : (c ≤ a) ↔ m ≤ a.toInt := by rw [Int32.le_iff_toInt_le, hc]
/-- the reference's reckoning -/
theorem V_comesTo {f : Nat → Int32} {z : mG} (hf : ∀ j, 1 ≤ j → j < 10 → z.1 97 j = f j) : ∀ (n k : Nat) (st : List Int32) (ts ts' : List Bool) (b : mG), k + n ≤ 400 → Rt (fun j => z.1 89 (1050 + j)) k n ts ts' → tyd ts st → SKr (b.1 96) st → ts.length ≤ 64 → (∀ j, j ≠ 96 → b.1 j = z.1 j) → pk (F_X12_comesTo_L6 (ci 0) (cn (k + n)) (cn st.length) (cn k) b) (fun τ => τ.1 = τ.2.1 96 0 ∧ SKr (τ.2.1 96) (evs (fun j => z.1 89 (1050 + j)) f k n st) ∧ ∀ j, j ≠ 96 → τ.2.1 j = z.1 j) := by
  intro n
  induction n with
  | zero =>
    intro k st ts ts' b hk hR ht hS hl hz
    rw [CT_bw]
    refine pk_bw ?_
    unfold F_X12_comesTo_B6
    rw [if_pos ((cn_le (by omega) (by omega)).mpr (by omega))]
    exact pk_some ⟨rfl, hS, hz⟩
  | succ n ih =>
    intro k st ts ts' b hk hR ht hS hl hz
    obtain ⟨m, hm, hR⟩ := hR
    dsimp only at hm
    have hlen := tyd_len ht
    have eI : ((c16 1050) + ((c16 820) * (ci 0))) + ((ci 2) * cn k) = cn (1050 + 2 * k) := by
      rw [show (c16 1050) + ((c16 820) * (ci 0)) = cn 1050 by decide, show (ci 2) * cn k = cn (2 * k) from cn_mul (a := 2) (by omega) (by omega) (by omega), cn_add (by omega)]
    rw [CT_bw]
    refine pk_bw ?_
    unfold F_X12_comesTo_B6
    rw [if_neg (fun q => absurd ((cn_le (by omega) (by omega)).mp q) (by omega)), eI, cnu (a := 1050 + 2 * k) (by omega), cn_nat (n := 1050 + 2 * k) (by omega), cn_nat (n := 1050 + 2 * k + 1) (by omega)]
    dsimp only
    refine pk_nn (pk_nn ?_)
    rw [hz 89 (by decide), show 1050 + 2 * k + 1 = 1050 + (2 * k + 1) by omega]
    generalize hK : z.1 89 (1050 + 2 * k) = K at *
    generalize hV : z.1 89 (1050 + (2 * k + 1)) = V at *
    have go : ∀ (b2 : mG) (x4 : Int32), x4 = cn (ev1 f K V st).length → SKr (b2.1 96) (ev1 f K V st) → (∀ j, j ≠ 96 → b2.1 j = b.1 j) → pk (F_X12_comesTo_L6 (ci 0) (cn (k + (n + 1))) x4 (cn k + ci 1) b2) (fun τ => τ.1 = τ.2.1 96 0 ∧ SKr (τ.2.1 96) (evs (fun j => z.1 89 (1050 + j)) f k (n + 1) st) ∧ ∀ j, j ≠ 96 → τ.2.1 j = z.1 j) := by
      intro b2 x4 e4 hS2 hb2
      have q := ih (k + 1) (ev1 f K V st) m ts' b2 (by omega) hR (ev1_ty hm ht) hS2 (Rt_len 1 0 ts m (c := fun j => if j = 0 then K else V) ⟨m, hm, rfl⟩ hl) (fun j hj => (hb2 j hj).trans (hz j hj))
      rw [show k + 1 + n = k + (n + 1) by omega, ← e4, ← cnu (a := k) (by omega)] at q
      have e : evs (fun j => z.1 89 (1050 + j)) f k (n + 1) st = evs (fun j => z.1 89 (1050 + j)) f (k + 1) n (ev1 f K V st) := by
        show evs (fun j => z.1 89 (1050 + j)) f (k + 1) n (ev1 f (z.1 89 (1050 + 2 * k)) (z.1 89 (1050 + (2 * k + 1))) st) = _
        rw [hK, hV]
      rw [e]
      exact q
    unfold F_X12_comesTo_180 F_X12_comesTo_86 F_X12_comesTo_180
    rcases stpT_cases hm with ⟨h1, h2, h3, h4, _⟩ | ⟨h1, h2, x, r, e1, _⟩ | ⟨h1, x, r, e1, _⟩ | ⟨h1, h2, h3, x, y, r, e1, _⟩
    · rw [if_neg (fun q => absurd ((nle_t (by decide : (c8 23).toInt = 23)).mp q) (by omega))]
      have hsl : st.length < 64 := by omega
      have ep : ∀ v, v = (if K = 0 then V else f K.toNatClampNeg) → pk (some (Sum.inl ((ci 0), (cn (k + (n + 1))), (cn st.length + ci 1), (cn k + ci 1), ((mu b.1 96 st.length v, b.2) : mG))) : Option ((Int32 × Int32 × Int32 × Int32 × mG) ⊕ (Int32 × mG))) (se (fun v => pk (F_X12_comesTo_L6 v.1 v.2.1 v.2.2.1 v.2.2.2.1 v.2.2.2.2) (fun τ => τ.1 = τ.2.1 96 0 ∧ SKr (τ.2.1 96) (evs (fun j => z.1 89 (1050 + j)) f k (n + 1) st) ∧ ∀ j, j ≠ 96 → τ.2.1 j = z.1 j)) (fun τ => τ.1 = τ.2.1 96 0 ∧ SKr (τ.2.1 96) (evs (fun j => z.1 89 (1050 + j)) f k (n + 1) st) ∧ ∀ j, j ≠ 96 → τ.2.1 j = z.1 j)) := by
        intro v hv
        refine pk_some (go _ _ ?_ ?_ (fun j hj => mu_row hj))
        · rw [ev1_push h1, cnu (by omega)]; rfl
        · rw [ev1_push h1, ← hv]
          exact SKr_mu hS
      by_cases hk0 : K = 0
      · rw [if_pos hk0, cn_nat (n := st.length) (by omega)]
        exact pk_nn (ep V (by rw [if_pos hk0]))
      · rw [if_neg hk0, cn_nat (n := st.length) (by omega)]
        refine pk_nn (pk_nn (ep _ ?_))
        rw [if_neg hk0, hz 97 (by decide)]
        have hne : K.toInt ≠ 0 := fun q => hk0 (Int32.toInt_inj.mp (by rw [q, t_zero]))
        exact hf _ (by rw [t_nat]; omega) (by rw [t_nat]; omega)
    · rw [if_pos ((nle_t (by decide : (c8 23).toInt = 23)).mpr (by omega)), if_pos ((i32_of h1 (by decide) (by decide)).trans (show ci 26 = c8 26 by decide))]
      subst e1
      obtain ⟨a, q, e2, _, _⟩ := tyd_1 ht
      subst e2
      have hq : q.length < 64 := by simp at hlen hl; omega
      rw [show cn (a :: q).length - ci 1 = cn q.length from cn_d1 (n := q.length) (by omega), cn_nat (n := q.length) (by omega), if_neg h2]
      refine pk_nn (pk_nn (pk_some (go _ _ ?_ ?_ (fun j hj => mu_row hj))))
      · rw [ev1_part h1]; rfl
      · rw [ev1_part h1, hS.1]
        exact SKr_mu hS.2
    · rw [if_pos ((nle_t (by decide : (c8 23).toInt = 23)).mpr (by omega)), if_neg (fun e => absurd (congrArg Int32.toInt e) (by rw [h1]; decide)), if_pos ((i32_of h1 (by decide) (by decide)).trans (show ci 30 = c8 30 by decide))]
      subst e1
      obtain ⟨a, q, e2, _, _⟩ := tyd_1 ht
      subst e2
      have hq : q.length < 64 := by simp at hlen hl; omega
      rw [show cn (a :: q).length - ci 1 = cn q.length from cn_d1 (n := q.length) (by omega), cn_nat (n := q.length) (by omega)]
      refine pk_nn (pk_nn (pk_some (go _ _ ?_ ?_ (fun j hj => mu_row hj))))
      · rw [ev1_not h1]; rfl
      · rw [ev1_not h1, hS.1]
        exact SKr_mu hS.2
    · rw [if_pos ((nle_t (by decide : (c8 23).toInt = 23)).mpr (by omega)), if_neg (fun e => absurd (congrArg Int32.toInt e) (by rw [show (c8 26).toInt = 26 by decide]; exact h2)), if_neg (fun e => absurd (congrArg Int32.toInt e) (by rw [show (c8 30).toInt = 30 by decide]; exact h3))]
      subst e1
      obtain ⟨a, q, e2, _, t2⟩ := tyd_1 ht
      subst e2
      obtain ⟨a2, q2, e2, _, _⟩ := tyd_1 t2
      subst e2
      have hq : q2.length < 63 := by simp at hlen hl; omega
      rw [show cn (a :: a2 :: q2).length + ci (-1) = cn (q2.length + 1) from cn_d2 (n := q2.length + 1) (by omega), show cn (q2.length + 1) - ci 1 = cn q2.length from cn_d1 (by omega), cn_nat (n := q2.length) (by omega), cn_nat (n := q2.length + 1) (by omega)]
      refine pk_nn (pk_nn ?_)
      rw [V_both, b1_some]
      refine pk_nn (pk_some (go _ _ ?_ ?_ (fun j hj => mu_row hj)))
      · rw [ev1_bin h1 h2 h3]
        show cn (q2.length + 1) = cn (q2.length + 1)
        rfl
      · rw [ev1_bin h1 h2 h3, show b.1 96 q2.length = a2 from hS.2.1, show b.1 96 (q2.length + 1) = a from hS.1]
        exact SKr_mu hS.2.2
end
end
/-! 5z5.value -/
section
noncomputable section
/-! THE CLASS RECKONS ALIKE -/
section CELLS
variable {j n : Nat} {s : mG}
theorem V_cellJ {k : Nat} (hj : SH[j]? = some (.inl (0, n, []))) (hk : k < n) (hn : n < 2147483648) : F_X11_cell j s (cn k) = some (s.1 j k) := by
  have h1 : mal j = some n := by unfold mal; rw [hj]; rfl
  have h4 : mia s j (cn k) = some (s.1 j k) := by
    unfold mia
    rw [hj]
    simp only [if_neg (cn_ix hk hn)]
    rw [cn_nat (by omega)]
  unfold F_X11_cell
  rw [if_neg (cn_nn (by omega)), h1, b1_some, if_neg (fun q => absurd ((cn_le hn (by omega)).mp q) (by omega)), h4, b1_some]
theorem V_cellM {x : Int32} (hx : x < 0) : F_X11_cell j s x = some (ci 0) := by
  unfold F_X11_cell F_X11_cell_20
  rw [if_pos hx]
theorem V_putJ {k : Nat} {v : Int32} (hj : SH[j]? = some (.inl (0, n, []))) (hk : k < n) (hn : n < 2147483648) : F_X11_put j (cn k) v s = some (mu s.1 j k v, s.2) := by
  have h1 : mal j = some n := by unfold mal; rw [hj]; rfl
  unfold F_X11_put
  rw [if_neg (cn_nn (by omega)), h1, b1_some, if_neg (fun q => absurd ((cn_le hn (by omega)).mp q) (by omega)), hj]
  simp only [bs]
  rw [if_neg (cn_ix hk hn), cn_nat (by omega)]
end CELLS
theorem V_joined {s : mG} {a b : Int32} {q : Nat × Nat} (hq : q ∈ OPL) (h30 : q.1 ≠ 30) : F_X3_joined s (cn q.2) a b = some (op2 (cn q.1) a b) := by
  simp only [OPL, List.mem_cons, List.not_mem_nil, or_false] at hq
  rcases hq with e | e | e | e | e | e | e | e | e <;> subst e
  · rfl
  · rfl
  · rfl
  · have e1 : F_X3_joined s (cn 6) a b = if b ≤ a then some (ci 0) else some (ci 1) := rfl
    have e2 : op2 (cn 27) a b = if b ≤ a then ci 0 else ci 1 := rfl
    show F_X3_joined s (cn 6) a b = some (op2 (cn 27) a b)
    rw [e1, e2]; split <;> rfl
  · have e1 : F_X3_joined s (cn 7) a b = if a = b then some (ci 1) else some (ci 0) := rfl
    have e2 : op2 (cn 28) a b = if a = b then ci 1 else ci 0 := rfl
    show F_X3_joined s (cn 7) a b = some (op2 (cn 28) a b)
    rw [e1, e2]; split <;> rfl
  · have e1 : F_X3_joined s (cn 8) a b = if a ≤ b then some (ci 0) else some (ci 1) := rfl
    have e2 : op2 (cn 29) a b = if a ≤ b then ci 0 else ci 1 := rfl
    show F_X3_joined s (cn 8) a b = some (op2 (cn 29) a b)
    rw [e1, e2]; split <;> rfl
  · exact absurd rfl h30
  · rfl
  · rfl
theorem VO_bw {x2 x3 x4 : Int32} {a : mG} : F_X3_valueOf_L5 x2 x3 x4 a = bw (F_X3_valueOf_B5 x2 x3 x4 a) (fun v => F_X3_valueOf_L5 v.1 v.2.1 v.2.2.1 v.2.2.2) := whl_bw _ _
/-- what a step of the class's code is, by the reference's -/
def DCc (X K V : Int32) : Prop := (K.toInt = 0 ∧ X / c16 10000 = ci 0 ∧ rm X (c16 10000) = V) ∨ (∃ j, j < 9 ∧ K = cn (j + 1) ∧ X / c16 10000 = ci 1 ∧ rm X (c16 10000) = cn j) ∨ (K.toInt = 26 ∧ X / c16 10000 = ci 5 ∧ rm X (c16 10000) = V) ∨ (∃ q, q ∈ OPL ∧ K = cn q.1 ∧ X / c16 10000 = cn q.2)
theorem EN_dc {X K V : Int32} (h : EN X K V) : DCc X K V := by
  have c1 : (c16 10000).toInt = 10000 := by decide
  rcases h with ⟨e, e2, h1, h2⟩ | ⟨j, hj, e, e2⟩ | ⟨e, e2, h1, h2⟩ | ⟨q, hq, e, e2⟩
  · subst e; subst e2
    refine Or.inl ⟨by decide, ?_, ?_⟩
    · exact Int32.toInt_inj.mp (by rw [t_div rfl c1 h1 (by decide), show (ci 0).toInt = 0 by decide]; omega)
    · exact Int32.toInt_inj.mp (by rw [t_rm rfl c1 h1 (by decide)]; omega)
  · have t : ∀ j, j < 9 → cn (10000 + j) / c16 10000 = ci 1 ∧ rm (cn (10000 + j)) (c16 10000) = cn j := by decide +kernel
    subst e2
    exact Or.inr (Or.inl ⟨j, hj, e, (t j hj).1, (t j hj).2⟩)
  · subst e
    have ex : X.toInt = 50000 + V.toInt := by rw [e2]; exact r_add (by decide : (ci 50000).toInt = 50000) rfl (by omega) (by omega)
    refine Or.inr (Or.inr (Or.inl ⟨by decide, ?_, ?_⟩))
    · exact Int32.toInt_inj.mp (by rw [t_div ex c1 (by omega) (by decide), show (ci 5).toInt = 5 by decide]; omega)
    · exact Int32.toInt_inj.mp (by rw [t_rm ex c1 (by omega) (by decide)]; omega)
  · subst e2
    refine Or.inr (Or.inr (Or.inr ⟨q, hq, e, ?_⟩))
    have t : ∀ q ∈ OPL, cn (q.2 * 10000) / c16 10000 = cn q.2 := by decide +kernel
    exact t q hq
theorem al_9 : m_alen (8 + 1) = 400 := by decide +kernel
theorem V_valueOf {f w : Nat → Int32} {z : mG} {nc : Nat} (hf : ∀ j, j < 9 → z.1 69 j = f (j + 1)) (h1 : z.1 8 1 = cn 1) (h3 : z.1 8 3 = cn nc) (hnc : nc ≤ 400) (hE : ∀ j, j < nc → EN (z.1 9 j) (w (1050 + 2 * j)) (w (1050 + 2 * j + 1))) : ∀ (n k : Nat) (st : List Int32) (ts ts' : List Bool) (a : mG), k + n ≤ nc → Rt (fun j => w (1050 + j)) k n ts ts' → tyd ts st → SKr (a.1 70) st → ts.length ≤ 64 → (∀ j, j ≠ 70 → a.1 j = z.1 j) → pk (F_X3_valueOf_L5 (cn (k + n)) (cn st.length) (cn k) a) (fun τ => τ.1 = (evs (fun j => w (1050 + j)) f k n st).headD (ci 0) ∧ ∀ j, j ≠ 70 → τ.2.1 j = z.1 j) := by
  intro n
  induction n with
  | zero =>
    intro k st ts ts' a hk hR ht hS hl hz
    rw [VO_bw]
    refine pk_bw ?_
    unfold F_X3_valueOf_B5
    rw [if_pos ((cn_le (by omega) (by omega)).mpr (by omega))]
    have hlen := tyd_len ht
    cases st with
    | nil =>
      rw [V_cellM (by decide), b1_some]
      exact pk_some ⟨rfl, hz⟩
    | cons x r =>
      have hr : r.length < 64 := by simp at hlen; omega
      rw [show cn (x :: r).length - ci 1 = cn r.length from cn_d1 (n := r.length) (by omega), V_cellJ sh70 hr (by decide), b1_some]
      exact pk_some ⟨hS.1, hz⟩
  | succ n ih =>
    intro k st ts ts' a hk hR ht hS hl hz
    obtain ⟨m, hm, hR⟩ := hR
    dsimp only at hm
    have hlen := tyd_len ht
    have hat : F_X10_at 8 a (cn k) (ci 0) = some (z.1 9 k) := by
      have q := V_at (t := 8) (s := a) (a1 := cn k) (a2 := ci 0) (r := k) (c := 0) (n := nc) (W := 1) rfl rfl (by rw [hz 8 (by decide)]; exact h1) (by rw [hz 8 (by decide)]; exact h3) (by omega) (by decide) (by rw [al_9]; omega) (by omega)
      rw [q, hz (8 + 1) (by decide), Nat.mul_one]
      rfl
    have hd := EN_dc (hE k (by omega))
    rw [VO_bw]
    refine pk_bw ?_
    unfold F_X3_valueOf_B5
    rw [if_neg (fun q => absurd ((cn_le (by omega) (by omega)).mp q) (by omega)), hat, b1_some, b1_some]
    rw [show 1050 + 2 * k + 1 = 1050 + (2 * k + 1) by omega] at hd
    generalize hX : z.1 9 k = X at *
    generalize hK : w (1050 + 2 * k) = K at *
    generalize hV : w (1050 + (2 * k + 1)) = V at *
    have go : ∀ (b2 : mG) (x3 : Int32), x3 = cn (ev1 f K V st).length → SKr (b2.1 70) (ev1 f K V st) → (∀ j, j ≠ 70 → b2.1 j = a.1 j) → pk (F_X3_valueOf_L5 (cn (k + (n + 1))) x3 (cn k + ci 1) b2) (fun τ => τ.1 = (evs (fun j => w (1050 + j)) f k (n + 1) st).headD (ci 0) ∧ ∀ j, j ≠ 70 → τ.2.1 j = z.1 j) := by
      intro b2 x3 e4 hS2 hb2
      have q := ih (k + 1) (ev1 f K V st) m ts' b2 (by omega) hR (ev1_ty hm ht) hS2 (Rt_len 1 0 ts m (c := fun j => if j = 0 then K else V) ⟨m, hm, rfl⟩ hl) (fun j hj => (hb2 j hj).trans (hz j hj))
      rw [show k + 1 + n = k + (n + 1) by omega, ← e4, ← cnu (a := k) (by omega)] at q
      have e : evs (fun j => w (1050 + j)) f k (n + 1) st = evs (fun j => w (1050 + j)) f (k + 1) n (ev1 f K V st) := by
        show evs (fun j => w (1050 + j)) f (k + 1) n (ev1 f (w (1050 + 2 * k)) (w (1050 + (2 * k + 1))) st) = _
        rw [hK, hV]
      rw [e]
      exact q
    have top : ∃ t, F_X11_cell 70 a (cn st.length - ci 1) = some t ∧ ∀ x r, st = x :: r → t = x := by
      cases st with
      | nil => exact ⟨ci 0, V_cellM (by decide), fun x r e => by cases e⟩
      | cons y q =>
        have hr : q.length < 64 := by simp at hlen; omega
        refine ⟨y, ?_, fun x r e => (List.cons.inj e).1⟩
        rw [show cn (y :: q).length - ci 1 = cn q.length from cn_d1 (n := q.length) (by omega), V_cellJ sh70 hr (by decide)]
        exact congrArg some hS.1
    obtain ⟨t, et, ht2⟩ := top
    rw [et, b1_some]
    unfold F_X3_valueOf_199 F_X3_valueOf_176 F_X3_valueOf_229
    rcases hd with ⟨eK, eD, eM⟩ | ⟨j, hj, eK, eD, eM⟩ | ⟨eK, eD, eM⟩ | ⟨q, hq, eK, eD⟩
    · rw [eD, if_pos rfl, eM]
      rcases stpT_cases hm with ⟨g1, g2, g3, g4, _⟩ | ⟨g1, _⟩ | ⟨g1, _⟩ | ⟨g1, _⟩
      · rw [V_putJ sh70 (by omega : st.length < 64) (by decide), b1_some]
        refine pk_some (go _ _ ?_ ?_ (fun j hj => mu_row hj))
        · rw [ev1_push g1, cnu (by omega)]; rfl
        · rw [ev1_push g1, if_pos (Int32.toInt_inj.mp (by rw [eK, t_zero]))]
          exact SKr_mu hS
      all_goals omega
    · rw [eD, if_neg (by decide), if_pos rfl, eM, V_cellJ sh69 hj (by decide), b1_some]
      have eK2 : K.toInt = (j : Int) + 1 := by rw [eK, t_cn (by omega)]; omega
      rcases stpT_cases hm with ⟨g1, g2, g3, g4, _⟩ | ⟨g1, _⟩ | ⟨g1, _⟩ | ⟨g1, _⟩
      · rw [V_putJ sh70 (by omega : st.length < 64) (by decide), b1_some]
        refine pk_some (go _ _ ?_ ?_ (fun j hj => mu_row hj))
        · rw [ev1_push g1, cnu (by omega)]; rfl
        · have n0 : ¬ K = 0 := fun e => by rw [e, t_zero] at eK2; omega
          rw [ev1_push g1, if_neg n0, hz 69 (by decide), hf j hj, show K.toNatClampNeg = j + 1 by rw [t_nat, eK2]; omega]
          exact SKr_mu hS
      all_goals omega
    · rw [eD, if_neg (by decide), if_neg (by decide), if_neg (by decide), if_neg (by decide), if_neg (by decide), if_pos rfl, eM]
      rcases stpT_cases hm with ⟨g1, _⟩ | ⟨g1, g2, x, r, e1, _⟩ | ⟨g1, _⟩ | ⟨g1, g2, _⟩
      · omega
      · subst e1
        obtain ⟨y, q, e2, _, _⟩ := tyd_1 ht
        subst e2
        have hr : q.length < 64 := by simp at hlen hl; omega
        rw [if_neg g2, if_neg g2, show cn (y :: q).length - ci 1 = cn q.length from cn_d1 (n := q.length) (by omega), V_putJ sh70 hr (by decide), b1_some, ht2 y q rfl]
        refine pk_some (go _ _ ?_ ?_ (fun j hj => mu_row hj))
        · rw [ev1_part g1]; rfl
        · rw [ev1_part g1]
          exact SKr_mu hS.2
      · omega
      · exact absurd eK g2
    · rw [eD]
      have q30 : ∀ q ∈ OPL, 23 ≤ q.1 ∧ q.1 ≠ 26 ∧ q.1 < 100 ∧ (q.1 = 30 ↔ q.2 = 9) := by decide
      obtain ⟨b1', b2', b3', b4'⟩ := q30 q hq
      have eK2 : K.toInt = (q.1 : Int) := by rw [eK, t_cn (by omega)]
      by_cases h30 : q.1 = 30
      · rw [show q.2 = 9 from b4'.mp h30, show cn 9 = ci 9 from rfl, if_neg (by decide), if_neg (by decide), if_neg (by decide), if_neg (by decide), if_neg (by decide), if_neg (by decide), if_neg (by decide), if_neg (by decide), if_neg (by decide), if_pos rfl]
        rcases stpT_cases hm with ⟨g1, _⟩ | ⟨g1, _⟩ | ⟨g1, x, r, e1, _⟩ | ⟨g1, g2, g3, _⟩
        · omega
        · omega
        · subst e1
          obtain ⟨y, q, e2, _, _⟩ := tyd_1 ht
          subst e2
          have hr : q.length < 64 := by simp at hlen hl; omega
          rw [show cn (y :: q).length - ci 1 = cn q.length from cn_d1 (n := q.length) (by omega), V_putJ sh70 hr (by decide), b1_some, ht2 y q rfl]
          refine pk_some (go _ _ ?_ ?_ (fun j hj => mu_row hj))
          · rw [ev1_not g1]; rfl
          · rw [ev1_not g1]
            exact SKr_mu hS.2
        · omega
      · have dsp : ∀ (A B C D E F G H I J L : Option ((Int32 × Int32 × Int32 × mG) ⊕ (Int32 × mG))), C = L → D = L → E = L → G = L → H = L → I = L → (if cn q.2 = ci 0 then A else if cn q.2 = ci 1 then B else if cn q.2 = ci 2 then C else if cn q.2 = ci 3 then D else if cn q.2 = ci 4 then E else if cn q.2 = ci 5 then F else if cn q.2 = ci 6 then G else if cn q.2 = ci 7 then H else if cn q.2 = ci 8 then I else if cn q.2 = ci 9 then J else L) = L := by
          intro A B C D E F G H I J L hC hD hE hG hH hI
          have hq2 := hq
          simp only [OPL, List.mem_cons, List.not_mem_nil, or_false] at hq2
          rcases hq2 with e | e | e | e | e | e | e | e | e <;> subst e
          · exact hC
          · exact hD
          · exact hE
          · exact hG
          · exact hH
          · exact hI
          · exact absurd rfl h30
          · rfl
          · rfl
        rw [dsp _ _ _ _ _ _ _ _ _ _ _ rfl rfl rfl rfl rfl rfl]
        rcases stpT_cases hm with ⟨g1, _⟩ | ⟨g1, _⟩ | ⟨g1, _⟩ | ⟨g1, g2, g3, x, y, r, e1, _⟩
        · omega
        · omega
        · omega
        · subst e1
          obtain ⟨u, p, e2, _, t2⟩ := tyd_1 ht
          subst e2
          obtain ⟨u2, p2, e2, _, _⟩ := tyd_1 t2
          subst e2
          have hr : p2.length < 63 := by simp at hlen hl; omega
          rw [show cn (u :: u2 :: p2).length + ci (-1) = cn (p2.length + 1) from cn_d2 (n := p2.length + 1) (by omega), show cn (p2.length + 1) - ci 1 = cn p2.length from cn_d1 (by omega), V_cellJ sh70 (by omega : p2.length < 64) (by decide), b1_some, V_joined hq h30, b1_some, V_putJ sh70 (by omega : p2.length < 64) (by decide), b1_some, ht2 u (u2 :: p2) rfl, ← eK]
          refine pk_some (go _ _ ?_ ?_ (fun j hj => mu_row hj))
          · rw [ev1_bin g1 g2 g3]
            show cn (p2.length + 1) = cn (p2.length + 1)
            rfl
          · rw [ev1_bin g1 g2 g3, show a.1 70 p2.length = u2 from hS.2.1]
            exact SKr_mu hS.2.2
end
end
/-! 5z6.tells -/
section
noncomputable section
/-! WHAT THE LAW TELLS: one number, on both sides -/
def EVw (w f : Nat → Int32) (a b : Nat) : Int32 := (evs (fun j => w (1050 + j)) f a (b - a) []).headD (ci 0)
def clL (v : Int32) : Int32 := imax (ci 0) (imin v (c16 1000))
/-- told by no line -/
def LVd (x : Nat) (o : Int32) : Int32 := if x = 5 then (if o = 0 then c16 900 else c8 100) else m_unt.getD x 0
def LVf (w f : Nat → Int32) (x : Nat) : Nat → Nat → Int32
  | 0, _ => LVd x (f 8)
  | m + 1, r => if w (1033 + r) = cn (20 + x) ∧ (w (1017 + r) = w (1001 + r) ∨ EVw w f (w (1001 + r)).toNatClampNeg (w (1017 + r)).toNatClampNeg = ci 1) then clL (EVw w f (w (985 + r)).toNatClampNeg (w (1001 + r)).toNatClampNeg) else LVf w f x m (r + 1)
def LV (w f : Nat → Int32) (x : Nat) : Int32 := LVf w f x (w 117).toNatClampNeg 0
/-- the lines of a law, and what their code pushes -/
def LTl (nc : Nat) (w : Nat → Int32) (r : Nat) : Prop := ∃ a b c : Nat, a ≤ b ∧ b ≤ c ∧ c ≤ nc ∧ w (985 + r) = cn a ∧ w (1001 + r) = cn b ∧ w (1017 + r) = cn c ∧ Rt (fun j => w (1050 + j)) a (b - a) [] [false] ∧ (b = c ∨ Rt (fun j => w (1050 + j)) b (c - b) [] [true])
def LTy (nc : Nat) (w : Nat → Int32) : Prop := nc ≤ 400 ∧ ∃ n, n ≤ 16 ∧ w 117 = cn n ∧ ∀ r, r < n → LTl nc w r
theorem ev_one {c f : Nat → Int32} {k n : Nat} {b : Bool} (h : Rt c k n [] [b]) : ∃ x, evs c f k n [] = [x] ∧ (b = true → PBz x) := by
  have q := Rt_ty (f := f) n k [] [b] [] h trivial
  obtain ⟨x, r, e, h1, h2⟩ := tyd_1 q
  cases r with
  | nil => exact ⟨x, e, h1⟩
  | cons y r => cases h2
theorem sub_k {a b : Nat} (h : a ≤ b) : a + (b - a) = b := by omega
/-- a piece of the law's code, here .. -/
theorem V_valC {w f : Nat → Int32} {z a : mG} {nc p q : Nat} {b : Bool} (hf : ∀ j, j < 9 → z.1 69 j = f (j + 1)) (h1 : z.1 8 1 = cn 1) (h3 : z.1 8 3 = cn nc) (hnc : nc ≤ 400) (hE : ∀ j, j < nc → EN (z.1 9 j) (w (1050 + 2 * j)) (w (1050 + 2 * j + 1))) (hz : ∀ j, j ≠ 70 → a.1 j = z.1 j) (hpq : p ≤ q) (hq : q ≤ nc) (hR : Rt (fun j => w (1050 + j)) p (q - p) [] [b]) : pk (F_X3_valueOf (cn p) (cn q) a) (fun τ => τ.1 = EVw w f p q ∧ (b = true → PBz τ.1) ∧ ∀ j, j ≠ 70 → τ.2.1 j = z.1 j) := by
  unfold F_X3_valueOf
  intro τ hτ
  have g := V_valueOf hf h1 h3 hnc hE (q - p) p [] [] [b] a (by omega) hR trivial trivial (by decide) hz
  rw [sub_k hpq] at g
  obtain ⟨g1, g2⟩ := g τ hτ
  obtain ⟨x, e, hb⟩ := ev_one (f := f) hR
  refine ⟨g1, fun hb1 => ?_, g2⟩
  rw [g1, e]
  exact hb hb1
/-- .. and there -/
theorem V_valR {f : Nat → Int32} {z a : mG} {p q : Nat} {b : Bool} (hf : ∀ j, 1 ≤ j → j < 10 → z.1 97 j = f j) (hz : ∀ j, j ≠ 96 → a.1 j = z.1 j) (hpq : p ≤ q) (hq : q ≤ 400) (hR : Rt (fun j => z.1 89 (1050 + j)) p (q - p) [] [b]) : pk (F_X12_comesTo (ci 0) (cn p) (cn q) a) (fun τ => τ.1 = EVw (z.1 89) f p q ∧ (b = true → PBz τ.1) ∧ ∀ j, j ≠ 96 → τ.2.1 j = z.1 j) := by
  unfold F_X12_comesTo
  intro τ hτ
  have g := V_comesTo hf (q - p) p [] [] [b] a (by omega) hR trivial trivial (by decide) hz
  rw [sub_k hpq] at g
  obtain ⟨g1, g2, g3⟩ := g τ hτ
  obtain ⟨x, e, hb⟩ := ev_one (f := f) hR
  rw [e] at g2
  have ex : τ.1 = x := g1.trans g2.1
  refine ⟨?_, fun hb1 => by rw [ex]; exact hb hb1, g3⟩
  unfold EVw
  rw [e]
  exact ex
theorem clL_eq {s : mG} {v : Int32} : (b1 (F_X12_lesser s (c16 1000) v) fun v31 => F_X12_greater s (ci 0) v31) = some (clL v) := by
  have e : F_X12_lesser s (c16 1000) v = some (imin v (c16 1000)) := by
    unfold F_X12_lesser imin
    by_cases h : c16 1000 < v
    · rw [if_neg (fun q => absurd h (Int32.not_lt.mpr q)), if_pos h]
    · rw [if_pos (Int32.not_lt.mp h), if_neg h]
  rw [e, b1_some]
  unfold F_X12_greater clL imax
  by_cases h : ci 0 < imin v (c16 1000)
  · rw [if_pos (Int32.le_of_lt h), if_pos h]
  · rw [if_neg h]
    by_cases h2 : ci 0 ≤ imin v (c16 1000)
    · rw [if_pos h2, Int32.le_antisymm (Int32.not_lt.mp h) h2]
    · rw [if_neg h2]
theorem clL_b {v : Int32} : 0 ≤ (clL v).toInt ∧ (clL v).toInt ≤ 1000 := by
  unfold clL imax imin
  have c1 : (c16 1000).toInt = 1000 := by decide
  have c0 : (ci 0).toInt = 0 := by decide
  by_cases h1 : c16 1000 < v
  · rw [if_pos h1]
    by_cases h2 : ci 0 < c16 1000
    · rw [if_pos h2, c1]; omega
    · rw [if_neg h2, c0]; omega
  · rw [if_neg h1]
    have g1 := r_nlt c1 rfl h1
    by_cases h2 : ci 0 < v
    · rw [if_pos h2]
      have g2 := r_lt c0 rfl h2
      omega
    · rw [if_neg h2, c0]; omega
theorem LVd_b {x : Nat} {o : Int32} (hx : x < 6) : 0 ≤ (LVd x o).toInt ∧ (LVd x o).toInt ≤ 1000 := by
  unfold LVd
  by_cases h : x = 5
  · rw [if_pos h]
    by_cases h2 : o = 0
    · rw [if_pos h2]; decide
    · rw [if_neg h2]; decide
  · rw [if_neg h]
    have t : ∀ x, x < 5 → 0 ≤ (m_unt.getD x 0).toInt ∧ (m_unt.getD x 0).toInt ≤ 1000 := by decide +kernel
    exact t x (by omega)
theorem LVf_b {w f : Nat → Int32} {x : Nat} (hx : x < 6) : ∀ m r, 0 ≤ (LVf w f x m r).toInt ∧ (LVf w f x m r).toInt ≤ 1000 := by
  intro m
  induction m with
  | zero => intro r; exact LVd_b hx
  | succ m ih =>
    intro r
    unfold LVf
    split
    · exact clL_b
    · exact ih (r + 1)
theorem LV_b {w f : Nat → Int32} {x : Nat} (hx : x < 6) : 0 ≤ (LV w f x).toInt ∧ (LV w f x).toInt ≤ 1000 := LVf_b hx _ _
theorem al_7 : m_alen (6 + 1) = 64 := by decide +kernel
/-- what is asked of a law to be told alike -/
def LWC (nc : Nat) (D : Nat → Nat → Int32) (w : Nat → Int32) : Prop := LWr 6 D w ∧ CWr 8 D w ∧ D 8 3 = cn nc ∧ LTy nc w
theorem V_tells {w f : Nat → Int32} {a : mG} {nc x : Nat} (hL : LWC nc a.1 w) (hf : ∀ j, j < 9 → a.1 69 j = f (j + 1)) (hx : x < 6) : pk (F_X3_tells (cn x) a) (fun τ => τ.1 = LV w f x ∧ ∀ j, j ≠ 70 → τ.2.1 j = a.1 j) := by
  obtain ⟨⟨l0, l1, n, hn, l3, l117, lx⟩, ⟨c0, c1, nc2, hnc2, c3, cE⟩, d3, hnc, n2, hn2, m117, hT⟩ := hL
  have e2 : n2 = n := (cn_inj (by omega) (by omega)).mp (m117.symm.trans l117)
  subst e2
  have e3 : nc2 = nc := (cn_inj (by omega) (by omega)).mp (c3.symm.trans d3)
  subst e3
  have e117 : (w 117).toNatClampNeg = n2 := by rw [l117, cn_nat (by omega)]
  unfold F_X3_tells F_X3_tells_L2
  refine pk_whl (fun v => ∃ r, r ≤ n2 ∧ v.1 = cn x ∧ v.2.1 = cn r ∧ (∀ j, j ≠ 70 → v.2.2.1 j = a.1 j) ∧ LVf w f x (n2 - r) r = LV w f x) ⟨0, Nat.zero_le _, rfl, rfl, fun _ _ => rfl, by unfold LV; rw [e117, Nat.sub_zero]⟩ (fun v hv => ?_)
  obtain ⟨x1, x2, u⟩ := v
  obtain ⟨r, hr, g1, g2, g3, g4⟩ := hv
  have g1 : x1 = cn x := g1
  have g2 : x2 = cn r := g2
  have g3 : ∀ j, j ≠ 70 → u.1 j = a.1 j := g3
  subst g1; subst g2
  unfold F_X3_tells_B2
  dsimp only
  rw [g3 6 (by decide), l3]
  by_cases hrn : n2 ≤ r
  · rw [if_pos ((cn_le (by omega) (by omega)).mpr hrn)]
    rw [show n2 - r = 0 by omega] at g4
    have g4 : LVd x (f 8) = LV w f x := g4
    by_cases h5 : x = 5
    · subst h5
      rw [if_pos (show cn 5 = ci 5 from rfl), show c8 7 = cn 7 by decide, V_cellJ sh69 (by decide) (by decide), b1_some, g3 69 (by decide), hf 7 (by decide)]
      have g5 : LVd 5 (f 8) = if f (7 + 1) = 0 then c16 900 else c8 100 := rfl
      by_cases h0 : f (7 + 1) = 0
      · rw [if_pos h0]
        rw [if_pos h0] at g5
        exact pk_some ⟨g5.symm.trans g4, g3⟩
      · rw [if_neg h0]
        rw [if_neg h0] at g5
        exact pk_some ⟨g5.symm.trans g4, g3⟩
    · rw [if_neg (fun q => h5 ((cn_inj (b := 5) (by omega) (by omega)).mp (q.trans (by decide))))]
      have eu : F_X11_cell 1000001 u (cn x) = some (m_unt.getD x 0) := by
        have h1 : mal 1000001 = some 5 := rfl
        have h4 : mia u 1000001 (cn x) = some (m_unt.getD x 0) := by
          unfold mia
          rw [show SH[1000001]? = none from List.getElem?_eq_none (by decide)]
          simp only [if_neg (cn_ix (n := 5) (by omega : x < 5) (by decide))]
          rw [cn_nat (by omega)]
          rfl
        unfold F_X11_cell
        rw [if_neg (cn_nn (by omega)), h1, b1_some, if_neg (fun q => absurd ((cn_le (a := 5) (by decide) (by omega)).mp q) (by omega)), h4, b1_some]
      rw [eu, b1_some]
      unfold LVd at g4
      rw [if_neg h5] at g4
      exact pk_some ⟨g4, g3⟩
  · rw [if_neg (fun q => hrn ((cn_le (by omega) (by omega)).mp q))]
    obtain ⟨y1, y2, y3, xw, hxw, y4, y5⟩ := lx r (by omega)
    have u1 : u.1 6 1 = cn 4 := by rw [g3 6 (by decide)]; exact l1
    have u3 : u.1 6 3 = cn n2 := by rw [g3 6 (by decide)]; exact l3
    have u7 : u.1 (6 + 1) = a.1 (6 + 1) := g3 7 (by decide)
    have al := al_7
    have lat : ∀ (s : mG) (c : Nat) (k : Int32), k = cn c → c < 4 → (∀ j, j ≠ 70 → s.1 j = a.1 j) → F_X10_at 6 s (cn r) k = some (a.1 (6 + 1) (r * 4 + c)) := fun s c k hk hc hs => by
      rw [V_at (t := 6) (s := s) (r := r) (c := c) (n := n2) (W := 4) rfl hk (by rw [hs 6 (by decide)]; exact l1) (by rw [hs 6 (by decide)]; exact l3) (by omega) hc (by rw [al]; omega) (by omega), hs (6 + 1) (by decide)]
    rw [lat u 2 (ci 2) rfl (by decide) g3, b1_some, lat u 3 (ci 3) rfl (by decide) g3, b1_some, lat u 0 (ci 0) rfl (by decide) g3, b1_some, y2, y3, y4]
    obtain ⟨p, q, c, hpq, hqc, hc, z1, z2, z3, z4, z5⟩ := hT r (by omega)
    have f1 : (w (985 + r)).toNatClampNeg = p := by rw [z1, cn_nat (by omega)]
    have f2 : (w (1001 + r)).toNatClampNeg = q := by rw [z2, cn_nat (by omega)]
    have f3 : (w (1017 + r)).toNatClampNeg = c := by rw [z3, cn_nat (by omega)]
    have step : LVf w f x (n2 - r) r = if w (1033 + r) = cn (20 + x) ∧ (w (1017 + r) = w (1001 + r) ∨ EVw w f q c = ci 1) then clL (EVw w f p q) else LVf w f x (n2 - (r + 1)) (r + 1) := by
      rw [show n2 - r = (n2 - (r + 1)) + 1 by omega]
      show (if _ then _ else _) = _
      rw [f1, f2, f3]
    have no : ∀ s : mG, (∀ j, j ≠ 70 → s.1 j = a.1 j) → ¬ (w (1033 + r) = cn (20 + x) ∧ (w (1017 + r) = w (1001 + r) ∨ EVw w f q c = ci 1)) → pk (F_X3_tells_115 (cn x) (cn r) s) (se (fun v => ∃ r, r ≤ n2 ∧ v.1 = cn x ∧ v.2.1 = cn r ∧ (∀ j, j ≠ 70 → v.2.2.1 j = a.1 j) ∧ LVf w f x (n2 - r) r = LV w f x) (fun τ => τ.1 = LV w f x ∧ ∀ j, j ≠ 70 → τ.2.1 j = a.1 j)) := fun s hs hn => by
      unfold F_X3_tells_115
      refine pk_some (show ∃ r, _ from ⟨r + 1, by omega, rfl, cnu (by omega), hs, ?_⟩)
      rw [← g4, step, if_neg hn]
    have yes : ∀ s : mG, (∀ j, j ≠ 70 → s.1 j = a.1 j) → (w (1033 + r) = cn (20 + x) ∧ (w (1017 + r) = w (1001 + r) ∨ EVw w f q c = ci 1)) → pk (F_X3_tells_87 (cn r) (cn q) s) (fun τ => τ.1 = LV w f x ∧ ∀ j, j ≠ 70 → τ.2.1 j = a.1 j) := fun s hs hy => by
      unfold F_X3_tells_87
      rw [lat s 1 (ci 1) rfl (by decide) hs, b1_some, y1, z1]
      refine pk_b2 (V_valC (z := a) (w := w) (f := f) hf c1 c3 hnc cE hs hpq (by omega) z4) (fun v t k => ?_)
      obtain ⟨k1, _, k3⟩ := k
      have k1 : v = EVw w f p q := k1
      refine pk_some ⟨?_, k3⟩
      rw [← g4, step, if_pos hy, ← k1]
      rfl
    unfold F_X3_tells_64
    by_cases hw : cn xw = cn x
    · have ew : xw = x := (cn_inj (by omega) (by omega)).mp hw
      subst ew
      rw [if_pos rfl, if_neg c1n0, z2, z3]
      by_cases hqc2 : q = c
      · subst hqc2
        rw [if_pos rfl]
        exact pk_b1r (yes u g3 ⟨y5, Or.inl (by rw [z2, z3])⟩)
      · rw [if_neg (fun e => hqc2 ((cn_inj (by omega) (by omega)).mp e))]
        refine pk_b2 (V_valC (z := a) (w := w) (f := f) hf c1 c3 hnc cE g3 hqc hc (z5.resolve_left hqc2)) (fun v t k => ?_)
        obtain ⟨k1, k2, k3⟩ := k
        have k1 : v = EVw w f q c := k1
        have k2 : PBz v := k2 rfl
        by_cases hv : v = 0
        · rw [if_pos hv]
          refine no t k3 (fun h => ?_)
          rcases h.2 with e | e
          · rw [z2, z3] at e
            exact hqc2 ((cn_inj (by omega) (by omega)).mp e).symm
          · rw [← k1, hv] at e
            exact absurd e (by decide)
        · rw [if_neg hv]
          refine pk_b1r (yes t k3 ⟨y5, Or.inr ?_⟩)
          rw [← k1]
          exact k2.resolve_left (fun e => hv (e.trans (by decide)))
    · rw [if_neg hw, if_pos c0e0]
      refine no u g3 (fun h => hw ?_)
      have e := (cn_inj (by omega) (by omega)).mp (y5.symm.trans h.1)
      rw [show xw = x by omega]
end
end
/-! 5z7.says -/
section
noncomputable section
/-! WHAT IS KNOWN OF A GUEST, here and there; what the reference says -/
/-- the facts by the reference's places 1 to 9 -/
def FAc (w : Nat → Int32) (g : Nat) (hour pear since : Int32) (j : Nat) : Int32 := if j = 1 then cn g else if j = 2 then w (119 + g) else if j = 3 then w (131 + g) else if j = 4 then rm hour (c8 24) else if j = 5 then hour / c8 24 else if j = 6 then pear else if j = 7 then w 114 else if j = 8 then (if w (15 + g) = ci (-1) then ci 0 else ci 1) else since
/-- the class knows them -/
def KNc (w : Nat → Int32) (g : Nat) (hour pear since : Int32) (u : mG) : Prop := ∀ j, j < 9 → u.1 69 j = FAc w g hour pear since (j + 1)
theorem lt9 {j : Nat} (h : j < 9) : j = 0 ∨ j = 1 ∨ j = 2 ∨ j = 3 ∨ j = 4 ∨ j = 5 ∨ j = 6 ∨ j = 7 ∨ j = 8 := by omega
theorem V_put69 {k : Nat} {e v : Int32} {s : mG} (he : e = cn k) (hk : k < 9) : F_X11_put 69 e v s = some (mu s.1 69 k v, s.2) := by
  rw [he]; exact V_putJ sh69 hk (by decide)
theorem V_supposeHour {w : Nat → Int32} {g : Nat} {h p s x : Int32} {a : mG} (hk : KNc w g h p s a) : pk (F_X3_supposeHour x a) (fun u => KNc w g x p s u ∧ ∀ j, j ≠ 69 → u.1 j = a.1 j) := by
  unfold F_X3_supposeHour
  rw [V_put69 (k := 3) (e := ci 3) (by decide) (by decide), b1_some, V_put69 (k := 4) (e := ci 4) (by decide) (by decide), b1_some]
  refine pk_some ⟨fun j hj => ?_, fun j hj => (mu_row hj).trans (mu_row hj)⟩
  dsimp only
  rcases lt9 hj with e | e | e | e | e | e | e | e | e <;> subst e
  · exact (mu_cell (by decide)).trans ((mu_cell (by decide)).trans (hk 0 (by decide)))
  · exact (mu_cell (by decide)).trans ((mu_cell (by decide)).trans (hk 1 (by decide)))
  · exact (mu_cell (by decide)).trans ((mu_cell (by decide)).trans (hk 2 (by decide)))
  · exact (mu_cell (by decide)).trans mu_same
  · exact mu_same
  · exact (mu_cell (by decide)).trans ((mu_cell (by decide)).trans (hk 5 (by decide)))
  · exact (mu_cell (by decide)).trans ((mu_cell (by decide)).trans (hk 6 (by decide)))
  · exact (mu_cell (by decide)).trans ((mu_cell (by decide)).trans (hk 7 (by decide)))
  · exact (mu_cell (by decide)).trans ((mu_cell (by decide)).trans (hk 8 (by decide)))
theorem KN_put {w : Nat → Int32} {g : Nat} {h p s h' p' s' v : Int32} {a : mG} {k : Nat} (hk : KNc w g h p s a) (hv : v = FAc w g h' p' s' (k + 1)) (ho : ∀ j, j < 9 → j ≠ k → FAc w g h p s (j + 1) = FAc w g h' p' s' (j + 1)) : KNc w g h' p' s' (mu a.1 69 k v, a.2) := fun j hj => by
  by_cases e : j = k
  · subst e; exact mu_sameQ.trans hv
  · exact (mu_cellQ (Or.inr e)).trans ((hk j hj).trans (ho j hj e))
theorem al_G : m_alen (2 + 1) = 132 := by decide +kernel
theorem V_atG {w : Nat → Int32} {s : mG} {n g c : Nat} {k : Int32} (hG : TWr 2 11 12 112 ixG s.1 w) (h3 : s.1 2 3 = cn n) (hn : n ≤ 12) (hg : g < n) (hc : c < 11) (hk : k = cn c) : F_X10_at 2 s (cn g) k = some (w (ixG g c)) := TWr_at hG h3 hn hg hc rfl hk (by decide) (by rw [al_G]; decide)
theorem V_face {w : Nat → Int32} {a : mG} {n g : Nat} (hG : TWr 2 11 12 112 ixG a.1 w) (h3 : a.1 2 3 = cn n) (hn : n ≤ 12) (hg : g < n) (e8 : a.1 1 8 = w 113) (e9 : a.1 1 9 = w 114) (e10 : a.1 1 10 = w 0) : pk (F_X3_face (cn g) a) (fun u => KNc w g (w 0) (w 113) (w (27 + g)) u ∧ ∀ j, j ≠ 69 → u.1 j = a.1 j) := by
  have atG : ∀ (s : mG) (c : Nat) (k : Int32), (∀ j, j ≠ 69 → s.1 j = a.1 j) → c < 11 → k = cn c → F_X10_at 2 s (cn g) k = some (w (ixG g c)) := fun s c k hs hc hk => by
    refine V_atG ?_ (by rw [hs 2 (by decide)]; exact h3) hn hg hc hk
    exact TWr_same hG (hs 2 (by decide)) (hs 3 (by decide)) rfl (fun _ _ _ _ => rfl)
  unfold F_X3_face
  rw [V_put69 (k := 0) (e := ci 0) (by decide) (by decide), b1_some]
  have q1 : ∀ j, j ≠ 69 → ((mu a.1 69 0 (cn g), a.2) : mG).1 j = a.1 j := fun j hj => mu_row hj
  have v1 : ((mu a.1 69 0 (cn g), a.2) : mG).1 69 0 = cn g := mu_sameQ
  generalize ((mu a.1 69 0 (cn g), a.2) : mG) = s1 at *
  rw [atG s1 0 (ci 0) q1 (by decide) rfl, b1_some, V_put69 (k := 1) (e := ci 1) (by decide) (by decide), b1_some]
  have q2 : ∀ j, j ≠ 69 → ((mu s1.1 69 1 (w (ixG g 0)), s1.2) : mG).1 j = a.1 j := fun j hj => (mu_row hj).trans (q1 j hj)
  have v2 : ((mu s1.1 69 1 (w (ixG g 0)), s1.2) : mG).1 69 0 = cn g ∧ ((mu s1.1 69 1 (w (ixG g 0)), s1.2) : mG).1 69 1 = w (119 + g) := ⟨(mu_cellQ (by decide)).trans v1, mu_sameQ⟩
  generalize ((mu s1.1 69 1 (w (ixG g 0)), s1.2) : mG) = s2 at *
  rw [atG s2 1 (ci 1) q2 (by decide) rfl, b1_some, V_put69 (k := 2) (e := ci 2) (by decide) (by decide), b1_some]
  have q3 : ∀ j, j ≠ 69 → ((mu s2.1 69 2 (w (ixG g 1)), s2.2) : mG).1 j = a.1 j := fun j hj => (mu_row hj).trans (q2 j hj)
  have v3 : ((mu s2.1 69 2 (w (ixG g 1)), s2.2) : mG).1 69 0 = cn g ∧ ((mu s2.1 69 2 (w (ixG g 1)), s2.2) : mG).1 69 1 = w (119 + g) ∧ ((mu s2.1 69 2 (w (ixG g 1)), s2.2) : mG).1 69 2 = w (131 + g) := ⟨(mu_cellQ (by decide)).trans v2.1, (mu_cellQ (by decide)).trans v2.2, mu_sameQ⟩
  generalize ((mu s2.1 69 2 (w (ixG g 1)), s2.2) : mG) = s3 at *
  rw [q3 1 (by decide), e8, V_put69 (k := 5) (e := ci 5) (by decide) (by decide), b1_some]
  have q4 : ∀ j, j ≠ 69 → ((mu s3.1 69 5 (w 113), s3.2) : mG).1 j = a.1 j := fun j hj => (mu_row hj).trans (q3 j hj)
  have v4 : (∀ j, j < 5 → ((mu s3.1 69 5 (w 113), s3.2) : mG).1 69 j = s3.1 69 j) ∧ ((mu s3.1 69 5 (w 113), s3.2) : mG).1 69 5 = w 113 := ⟨fun j hj => mu_cellQ (Or.inr (by omega)), mu_sameQ⟩
  generalize ((mu s3.1 69 5 (w 113), s3.2) : mG) = s4 at *
  rw [q4 1 (by decide), e9, V_put69 (k := 6) (e := c8 6) (by decide) (by decide), b1_some]
  have q5 : ∀ j, j ≠ 69 → ((mu s4.1 69 6 (w 114), s4.2) : mG).1 j = a.1 j := fun j hj => (mu_row hj).trans (q4 j hj)
  have v5 : (∀ j, j < 6 → ((mu s4.1 69 6 (w 114), s4.2) : mG).1 69 j = s4.1 69 j) ∧ ((mu s4.1 69 6 (w 114), s4.2) : mG).1 69 6 = w 114 := ⟨fun j hj => mu_cellQ (Or.inr (by omega)), mu_sameQ⟩
  generalize ((mu s4.1 69 6 (w 114), s4.2) : mG) = s5 at *
  rw [atG s5 3 (ci 3) q5 (by decide) rfl, b1_some]
  have fin : ∀ y, y = (if w (15 + g) = ci (-1) then ci 0 else ci 1) → pk (F_X3_face_107 (cn g) (c8 7) y s5) (fun u => KNc w g (w 0) (w 113) (w (27 + g)) u ∧ ∀ j, j ≠ 69 → u.1 j = a.1 j) := fun y hy => by
    unfold F_X3_face_107
    rw [V_put69 (k := 7) (e := c8 7) (by decide) (by decide), b1_some]
    have q6 : ∀ j, j ≠ 69 → ((mu s5.1 69 7 y, s5.2) : mG).1 j = a.1 j := fun j hj => (mu_row hj).trans (q5 j hj)
    have v6 : (∀ j, j < 7 → ((mu s5.1 69 7 y, s5.2) : mG).1 69 j = s5.1 69 j) ∧ ((mu s5.1 69 7 y, s5.2) : mG).1 69 7 = y := ⟨fun j hj => mu_cellQ (Or.inr (by omega)), mu_sameQ⟩
    generalize ((mu s5.1 69 7 y, s5.2) : mG) = s6 at *
    rw [atG s6 4 (ci 4) q6 (by decide) rfl, b1_some, V_put69 (k := 8) (e := c8 8) (by decide) (by decide), b1_some]
    have q7 : ∀ j, j ≠ 69 → ((mu s6.1 69 8 (w (ixG g 4)), s6.2) : mG).1 j = a.1 j := fun j hj => (mu_row hj).trans (q6 j hj)
    have v7 : (∀ j, j < 8 → ((mu s6.1 69 8 (w (ixG g 4)), s6.2) : mG).1 69 j = s6.1 69 j) ∧ ((mu s6.1 69 8 (w (ixG g 4)), s6.2) : mG).1 69 8 = w (27 + g) := ⟨fun j hj => mu_cellQ (Or.inr (by omega)), mu_sameQ⟩
    generalize ((mu s6.1 69 8 (w (ixG g 4)), s6.2) : mG) = s7 at *
    rw [q7 1 (by decide), e10]
    unfold F_X3_supposeHour
    rw [V_put69 (k := 3) (e := ci 3) (by decide) (by decide), b1_some, V_put69 (k := 4) (e := ci 4) (by decide) (by decide), b1_some, b1_some]
    refine pk_some ⟨fun j hj => ?_, fun j hj => (mu_row hj).trans ((mu_row hj).trans (q7 j hj))⟩
    dsimp only
    rcases lt9 hj with e | e | e | e | e | e | e | e | e <;> subst e
    · exact (mu_cell (by decide)).trans ((mu_cell (by decide)).trans ((v7.1 0 (by decide)).trans ((v6.1 0 (by decide)).trans ((v5.1 0 (by decide)).trans ((v4.1 0 (by decide)).trans v3.1)))))
    · exact (mu_cell (by decide)).trans ((mu_cell (by decide)).trans ((v7.1 1 (by decide)).trans ((v6.1 1 (by decide)).trans ((v5.1 1 (by decide)).trans ((v4.1 1 (by decide)).trans v3.2.1)))))
    · exact (mu_cell (by decide)).trans ((mu_cell (by decide)).trans ((v7.1 2 (by decide)).trans ((v6.1 2 (by decide)).trans ((v5.1 2 (by decide)).trans ((v4.1 2 (by decide)).trans v3.2.2)))))
    · exact (mu_cell (by decide)).trans mu_same
    · exact mu_same
    · exact (mu_cell (by decide)).trans ((mu_cell (by decide)).trans ((v7.1 5 (by decide)).trans ((v6.1 5 (by decide)).trans ((v5.1 5 (by decide)).trans v4.2))))
    · exact (mu_cell (by decide)).trans ((mu_cell (by decide)).trans ((v7.1 6 (by decide)).trans ((v6.1 6 (by decide)).trans v5.2)))
    · exact (mu_cell (by decide)).trans ((mu_cell (by decide)).trans ((v7.1 7 (by decide)).trans (v6.2.trans hy)))
    · exact (mu_cell (by decide)).trans ((mu_cell (by decide)).trans v7.2)
  by_cases hb : w (ixG g 3) = ci (-1)
  · rw [if_pos hb]
    exact fin _ (by rw [if_pos (show w (15 + g) = ci (-1) from hb)])
  · rw [if_neg hb]
    exact fin _ (by rw [if_neg (show ¬ w (15 + g) = ci (-1) from hb)])
/-! the reference -/
theorem V_onB {s : mG} {g : Nat} (hg : g < 12) : pk (F_X12_isOnBoard s (cn g)) (fun v => v = if s.1 89 (15 + g) = ci (-1) then ci 0 else ci 1) := by
  unfold F_X12_isOnBoard
  rw [show c8 15 + cn g = cn (15 + g) from cn_add (a := 15) (by omega), cn_nat (n := 15 + g) (by omega)]
  refine pk_nn ?_
  by_cases h : s.1 89 (15 + g) = ci (-1)
  · rw [if_pos h, if_pos h]; exact pk_some rfl
  · rw [if_neg h, if_neg h]; exact pk_some rfl
theorem V_without {s : mG} {g x : Nat} (hg : g < 12) (hx : x < 6) : pk (F_X12_without s (cn (20 + x)) (cn g)) (fun v => v = LVd x (if s.1 89 (15 + g) = ci (-1) then ci 0 else ci 1)) := by
  have e : x = 0 ∨ x = 1 ∨ x = 2 ∨ x = 3 ∨ x = 4 ∨ x = 5 := by omega
  rcases e with e | e | e | e | e | e <;> subst e
  · exact pk_some (show c8 100 = LVd 0 _ from by unfold LVd; rw [if_neg (by decide)]; decide +kernel)
  · exact pk_some (show c16 200 = LVd 1 _ from by unfold LVd; rw [if_neg (by decide)]; decide +kernel)
  · exact pk_some (show c16 300 = LVd 2 _ from by unfold LVd; rw [if_neg (by decide)]; decide +kernel)
  · exact pk_some (show ci 0 = LVd 3 _ from by unfold LVd; rw [if_neg (by decide)]; decide +kernel)
  · exact pk_some (show c16 500 = LVd 4 _ from by unfold LVd; rw [if_neg (by decide)]; decide +kernel)
  · have e : F_X12_without s (cn (20 + 5)) (cn g) = b1 (F_X12_isOnBoard s (cn g)) fun v7 => if v7 = 0 then some (c16 900) else some (c8 100) := rfl
    rw [e]
    refine pk_b1 (V_onB hg) (fun v hv => ?_)
    rw [← hv]
    unfold LVd
    rw [if_pos rfl]
    by_cases h : v = 0
    · rw [if_pos h, if_pos h]; exact pk_some rfl
    · rw [if_neg h, if_neg h]; exact pk_some rfl
theorem V_isSo {f : Nat → Int32} {z b : mG} {nc n r : Nat} (hf : ∀ j, 1 ≤ j → j < 10 → z.1 97 j = f j) (hz : ∀ j, j ≠ 96 → b.1 j = z.1 j) (hnc : nc ≤ 400) (hr : r < 16) (hT : LTl nc (z.1 89) r) : pk (F_X12_isSo (cn r) b) (fun τ => (τ.1 = 0 ↔ ¬ (z.1 89 (1017 + r) = z.1 89 (1001 + r) ∨ EVw (z.1 89) f (z.1 89 (1001 + r)).toNatClampNeg (z.1 89 (1017 + r)).toNatClampNeg = ci 1)) ∧ ∀ j, j ≠ 96 → τ.2.1 j = z.1 j) := by
  obtain ⟨p, q, c, hpq, hqc, hc, z1, z2, z3, z4, z5⟩ := hT
  unfold F_X12_isSo F_X12_isSo_52
  rw [show c16 1017 + cn r = cn (1017 + r) from cn_add (a := 1017) (by omega), show c16 1001 + cn r = cn (1001 + r) from cn_add (a := 1001) (by omega), cn_nat (n := 1017 + r) (by omega), cn_nat (n := 1001 + r) (by omega), hz 89 (by decide)]
  refine pk_nn (pk_nn ?_)
  by_cases h : z.1 89 (1017 + r) = z.1 89 (1001 + r)
  · rw [if_pos h]
    exact pk_some ⟨⟨fun e => absurd e c1n0, fun e => absurd (Or.inl h) e⟩, hz⟩
  · rw [if_neg h]
    refine pk_nn (pk_nn ?_)
    have hqc2 : q ≠ c := fun e => h (by rw [z2, z3, e])
    rw [z2, z3, cn_nat (n := q) (by omega), cn_nat (n := c) (by omega)]
    refine pk_b2 (V_valR hf hz hqc (by omega) (z5.resolve_left hqc2)) (fun v t k => ?_)
    obtain ⟨k1, _, k3⟩ := k
    have k1 : v = EVw (z.1 89) f q c := k1
    rw [← k1]
    by_cases hv : v = ci 1
    · rw [if_pos hv]
      exact pk_some ⟨⟨fun e => absurd e c1n0, fun e => absurd (Or.inr hv) e⟩, k3⟩
    · rw [if_neg hv]
      refine pk_some ⟨⟨fun _ e => ?_, fun _ => c0e0⟩, k3⟩
      rcases e with e | e
      · exact hqc2 ((cn_inj (by omega) (by omega)).mp e).symm
      · exact hv e
theorem V_saysL {f : Nat → Int32} {z : mG} {nc g x : Nat} (hT : LTy nc (z.1 89)) (hf : ∀ j, 1 ≤ j → j < 10 → z.1 97 j = f j) (hb : f 8 = if z.1 89 (15 + g) = ci (-1) then ci 0 else ci 1) (hg : g < 12) (hx : x < 6) : pk (F_X12_saysIn_L113 (cn (20 + x)) (cn g) (ci 0) z) (fun τ => τ.1 = LV (z.1 89) f x ∧ ∀ j, j ≠ 96 → τ.2.1 j = z.1 j) := by
  obtain ⟨hnc, n, hn, l117, hT⟩ := hT
  have e117 : (z.1 89 117).toNatClampNeg = n := by rw [l117, cn_nat (by omega)]
  unfold F_X12_saysIn_L113
  refine pk_whl (fun v => ∃ r, r ≤ n ∧ v.1 = cn (20 + x) ∧ v.2.1 = cn g ∧ v.2.2.1 = cn r ∧ (∀ j, j ≠ 96 → v.2.2.2.1 j = z.1 j) ∧ LVf (z.1 89) f x (n - r) r = LV (z.1 89) f x) ⟨0, Nat.zero_le _, rfl, rfl, rfl, fun _ _ => rfl, by unfold LV; rw [e117, Nat.sub_zero]⟩ (fun v hv => ?_)
  obtain ⟨x1, x2, x6, u⟩ := v
  obtain ⟨r, hr, g1, g2, g3, g4, g5⟩ := hv
  have g1 : x1 = cn (20 + x) := g1
  have g2 : x2 = cn g := g2
  have g3 : x6 = cn r := g3
  have g4 : ∀ j, j ≠ 96 → u.1 j = z.1 j := g4
  subst g1; subst g2; subst g3
  unfold F_X12_saysIn_B113
  dsimp only
  rw [g4 89 (by decide), l117]
  by_cases hrn : n ≤ r
  · rw [if_pos ((cn_le (by omega) (by omega)).mpr hrn)]
    rw [show n - r = 0 by omega] at g5
    have g5 : LVd x (f 8) = LV (z.1 89) f x := g5
    refine pk_b1 (V_without hg hx) (fun v hv => ?_)
    rw [g4 89 (by decide), ← hb] at hv
    exact pk_some ⟨hv.trans g5, g4⟩
  · rw [if_neg (fun q => hrn ((cn_le (by omega) (by omega)).mp q)), show c16 1033 + cn r = cn (1033 + r) from cn_add (a := 1033) (by omega), cn_nat (n := 1033 + r) (by omega)]
    refine pk_nn ?_
    have hTr := hT r (by omega)
    obtain ⟨p, q, c, hpq, hqc, hc, z1, z2, z3, z4, z5⟩ := hT r (by omega)
    have f1 : (z.1 89 (985 + r)).toNatClampNeg = p := by rw [z1, cn_nat (by omega)]
    have f2 : (z.1 89 (1001 + r)).toNatClampNeg = q := by rw [z2, cn_nat (by omega)]
    have step : LVf (z.1 89) f x (n - r) r = if z.1 89 (1033 + r) = cn (20 + x) ∧ (z.1 89 (1017 + r) = z.1 89 (1001 + r) ∨ EVw (z.1 89) f (z.1 89 (1001 + r)).toNatClampNeg (z.1 89 (1017 + r)).toNatClampNeg = ci 1) then clL (EVw (z.1 89) f p q) else LVf (z.1 89) f x (n - (r + 1)) (r + 1) := by
      rw [show n - r = (n - (r + 1)) + 1 by omega]
      show (if _ then _ else _) = _
      rw [f1, f2]
    have no : ∀ s : mG, (∀ j, j ≠ 96 → s.1 j = z.1 j) → ¬ (z.1 89 (1033 + r) = cn (20 + x) ∧ (z.1 89 (1017 + r) = z.1 89 (1001 + r) ∨ EVw (z.1 89) f (z.1 89 (1001 + r)).toNatClampNeg (z.1 89 (1017 + r)).toNatClampNeg = ci 1)) → pk (F_X12_saysIn_187 (cn (20 + x)) (cn g) (cn r) s) (se (fun v => ∃ r, r ≤ n ∧ v.1 = cn (20 + x) ∧ v.2.1 = cn g ∧ v.2.2.1 = cn r ∧ (∀ j, j ≠ 96 → v.2.2.2.1 j = z.1 j) ∧ LVf (z.1 89) f x (n - r) r = LV (z.1 89) f x) (fun τ => τ.1 = LV (z.1 89) f x ∧ ∀ j, j ≠ 96 → τ.2.1 j = z.1 j)) := fun s hs hn => by
      unfold F_X12_saysIn_187
      refine pk_some (show ∃ r, _ from ⟨r + 1, by omega, rfl, rfl, cnu (by omega), hs, ?_⟩)
      rw [← g5, step, if_neg hn]
    by_cases hw : z.1 89 (1033 + r) = cn (20 + x)
    · rw [if_pos hw]
      refine pk_b2 (V_isSo (n := n) hf g4 hnc (by omega) hTr) (fun v t k => ?_)
      obtain ⟨k1, k3⟩ := k
      by_cases hv : v = 0
      · rw [if_pos hv]
        exact no t k3 (fun h => (k1.mp hv) h.2)
      · rw [if_neg hv]
        have hy : z.1 89 (1017 + r) = z.1 89 (1001 + r) ∨ EVw (z.1 89) f (z.1 89 (1001 + r)).toNatClampNeg (z.1 89 (1017 + r)).toNatClampNeg = ci 1 := Classical.byContradiction (fun h => hv (k1.mpr h))
        have k3 : ∀ j, j ≠ 96 → t.1 j = z.1 j := k3
        rw [show c16 985 + cn r = cn (985 + r) from cn_add (a := 985) (by omega), show c16 1001 + cn r = cn (1001 + r) from cn_add (a := 1001) (by omega), cn_nat (n := 985 + r) (by omega), cn_nat (n := 1001 + r) (by omega), k3 89 (by decide), z1, z2]
        refine pk_nn (pk_nn ?_)
        refine pk_b2 (V_valR hf k3 hpq (by omega) z4) (fun v2 t2 k => ?_)
        obtain ⟨k4, _, k6⟩ := k
        have k4 : v2 = EVw (z.1 89) f p q := k4
        have e := clL_eq (s := t2) (v := v2)
        intro τ hτ
        obtain ⟨v31, h31, hτ⟩ := m_b1 hτ
        obtain ⟨v33, h33, hτ⟩ := m_b1 hτ
        rw [h31, b1_some, h33] at e
        have e := Option.some.inj e
        have hτ := Option.some.inj hτ
        subst hτ
        refine (show _ ∧ _ from ⟨?_, k6⟩)
        rw [e, k4, ← g5, step, if_pos ⟨hw, hy⟩]
    · rw [if_neg hw]
      exact no u g4 (fun h => hw h.1)
/-- the reference's row of facts, all but its last two -/
def SEr (D : Nat → Nat → Int32) (g : Nat) (hour pear : Int32) : Nat → Nat → Int32 := mu (mu (mu (mu (mu (mu (mu D 97 1 (cn g)) 97 2 (D 89 (119 + g))) 97 3 (D 89 (131 + g))) 97 4 (rm hour (c8 24))) 97 5 (hour / c8 24)) 97 6 pear) 97 7 (D 89 114)
theorem SEr_row {D : Nat → Nat → Int32} {g j : Nat} {hour pear : Int32} (h : j ≠ 97) : SEr D g hour pear j = D j := by
  unfold SEr
  rw [mu_row h, mu_row h, mu_row h, mu_row h, mu_row h, mu_row h, mu_row h]
theorem V_says {b : mG} {nc g x : Nat} {hour pear since : Int32} (hT : LTy nc (b.1 89)) (hg : g < 12) (hx : x < 6) : pk (F_X12_saysIn (cn (20 + x)) (cn g) hour pear since b) (fun τ => τ.1 = LV (b.1 89) (FAc (b.1 89) g hour pear since) x ∧ ∀ j, j ≠ 96 → j ≠ 97 → τ.2.1 j = b.1 j) := by
  unfold F_X12_saysIn
  dsimp only
  rw [show c8 119 + cn g = cn (119 + g) from cn_add (a := 119) (by omega), show c16 131 + cn g = cn (131 + g) from cn_add (a := 131) (by omega), cn_nat (n := 119 + g) (by omega), cn_nat (n := 131 + g) (by omega)]
  simp only [mu_row (show (89 : Nat) ≠ 97 by decide)]
  refine pk_nn (pk_nn ?_)
  refine pk_b1 (V_onB hg) (fun v11 hv => ?_)
  have hv : v11 = if SEr b.1 g hour pear 89 (15 + g) = ci (-1) then ci 0 else ci 1 := hv
  rw [SEr_row (by decide)] at hv
  have fin : ∀ y, y = (if b.1 89 (15 + g) = ci (-1) then ci 0 else ci 1) → pk (F_X12_saysIn_100 (cn (20 + x)) (cn g) since (c8 8) y (SEr b.1 g hour pear, b.2)) (fun τ => τ.1 = LV (b.1 89) (FAc (b.1 89) g hour pear since) x ∧ ∀ j, j ≠ 96 → j ≠ 97 → τ.2.1 j = b.1 j) := fun y hy => by
    unfold F_X12_saysIn_100
    rw [show c8 8 = cn 8 by decide, cn_nat (n := 8) (by decide)]
    refine pk_nn ?_
    dsimp only
    have r89 : ((mu (mu (SEr b.1 g hour pear) 97 8 y) 97 9 since, b.2) : mG).1 89 = b.1 89 := by
      show mu (mu (SEr b.1 g hour pear) 97 8 y) 97 9 since 89 = b.1 89
      rw [mu_row (by decide), mu_row (by decide)]
      exact SEr_row (by decide)
    have rj : ∀ j, j ≠ 97 → ((mu (mu (SEr b.1 g hour pear) 97 8 y) 97 9 since, b.2) : mG).1 j = b.1 j := fun j hj => (mu_row hj).trans ((mu_row hj).trans (SEr_row hj))
    have hf : ∀ j, 1 ≤ j → j < 10 → ((mu (mu (SEr b.1 g hour pear) 97 8 y) 97 9 since, b.2) : mG).1 97 j = FAc (b.1 89) g hour pear since j := fun j h1 h2 => by
      obtain ⟨i, rfl⟩ : ∃ i, j = i + 1 := ⟨j - 1, by omega⟩
      show mu (mu (SEr b.1 g hour pear) 97 8 y) 97 9 since 97 (i + 1) = _
      unfold SEr
      rcases lt9 (show i < 9 by omega) with e | e | e | e | e | e | e | e | e <;> subst e
      · exact (mu_cell (by decide)).trans ((mu_cell (by decide)).trans ((mu_cell (by decide)).trans ((mu_cell (by decide)).trans ((mu_cell (by decide)).trans ((mu_cell (by decide)).trans ((mu_cell (by decide)).trans ((mu_cell (by decide)).trans mu_same)))))))
      · exact (mu_cell (by decide)).trans ((mu_cell (by decide)).trans ((mu_cell (by decide)).trans ((mu_cell (by decide)).trans ((mu_cell (by decide)).trans ((mu_cell (by decide)).trans ((mu_cell (by decide)).trans mu_same))))))
      · exact (mu_cell (by decide)).trans ((mu_cell (by decide)).trans ((mu_cell (by decide)).trans ((mu_cell (by decide)).trans ((mu_cell (by decide)).trans ((mu_cell (by decide)).trans mu_same)))))
      · exact (mu_cell (by decide)).trans ((mu_cell (by decide)).trans ((mu_cell (by decide)).trans ((mu_cell (by decide)).trans ((mu_cell (by decide)).trans mu_same))))
      · exact (mu_cell (by decide)).trans ((mu_cell (by decide)).trans ((mu_cell (by decide)).trans ((mu_cell (by decide)).trans mu_same)))
      · exact (mu_cell (by decide)).trans ((mu_cell (by decide)).trans ((mu_cell (by decide)).trans mu_same))
      · exact (mu_cell (by decide)).trans ((mu_cell (by decide)).trans mu_same)
      · exact (mu_cell (by decide)).trans (mu_same.trans hy)
      · exact mu_same
    have q := V_saysL (f := FAc (b.1 89) g hour pear since) (z := (mu (mu (SEr b.1 g hour pear) 97 8 y) 97 9 since, b.2)) (nc := nc) (g := g) (x := x) (by rw [r89]; exact hT) hf (by rw [r89]; rfl) hg hx
    rw [r89] at q
    intro τ hτ
    obtain ⟨q1, q2⟩ := q τ hτ
    exact ⟨q1, fun j h1 h2 => (q2 j h1).trans (rj j h2)⟩
  by_cases h0 : v11 = 0
  · rw [if_pos h0]
    exact fin _ (by rw [← hv, h0, c0e0])
  · rw [if_neg h0]
    refine fin _ ?_
    by_cases hb : b.1 89 (15 + g) = ci (-1)
    · rw [if_pos hb] at hv
      exact absurd (hv.trans c0e0) h0
    · rw [if_neg hb]
theorem V_saysNow {b : mG} {nc g x : Nat} (hT : LTy nc (b.1 89)) (hg : g < 12) (hx : x < 6) : pk (F_X12_saysNow (cn (20 + x)) (cn g) b) (fun τ => τ.1 = LV (b.1 89) (FAc (b.1 89) g (b.1 89 0) (b.1 89 113) (b.1 89 (27 + g))) x ∧ ∀ j, j ≠ 96 → j ≠ 97 → τ.2.1 j = b.1 j) := by
  unfold F_X12_saysNow
  rw [show c8 27 + cn g = cn (27 + g) from cn_add (a := 27) (by omega), cn_nat (n := 27 + g) (by omega)]
  refine pk_nn (pk_b2 (V_says hT hg hx) (fun v u k => pk_some k))
end
end
/-! 5z8.house -/
section
noncomputable section
/-! ONE CELL CHANGES on both sides -/
theorem ixG_cases {r c : Nat} (hc : c < 11) : (c = 0 ∧ ixG r c = 119 + r) ∨ (c = 1 ∧ ixG r c = 131 + r) ∨ (c = 2 ∧ ixG r c = 3 + r) ∨ (c = 3 ∧ ixG r c = 15 + r) ∨ (c = 4 ∧ ixG r c = 27 + r) ∨ (5 ≤ c ∧ ixG r c = 39 + 6 * r + (c - 5)) := by
  unfold ixG
  by_cases h0 : c = 0
  · exact Or.inl ⟨h0, if_pos h0⟩
  by_cases h1 : c = 1
  · exact Or.inr (Or.inl ⟨h1, by rw [if_neg h0, if_pos h1]⟩)
  by_cases h2 : c = 2
  · exact Or.inr (Or.inr (Or.inl ⟨h2, by rw [if_neg h0, if_neg h1, if_pos h2]⟩))
  by_cases h3 : c = 3
  · exact Or.inr (Or.inr (Or.inr (Or.inl ⟨h3, by rw [if_neg h0, if_neg h1, if_neg h2, if_pos h3]⟩)))
  by_cases h4 : c = 4
  · exact Or.inr (Or.inr (Or.inr (Or.inr (Or.inl ⟨h4, by rw [if_neg h0, if_neg h1, if_neg h2, if_neg h3, if_pos h4]⟩))))
  · exact Or.inr (Or.inr (Or.inr (Or.inr (Or.inr ⟨by omega, by rw [if_neg h0, if_neg h1, if_neg h2, if_neg h3, if_neg h4]⟩))))
theorem ixG_inj {r c r' c' : Nat} (hr : r < 12) (hc : c < 11) (hr' : r' < 12) (hc' : c' < 11) : ixG r' c' = ixG r c ↔ r' = r ∧ c' = c := by
  constructor
  · intro h
    rcases ixG_cases (r := r) hc with q | q | q | q | q | q <;> rcases ixG_cases (r := r') hc' with p | p | p | p | p | p <;> omega
  · intro h
    rw [h.1, h.2]
theorem ixG_rng {r c : Nat} (hr : r < 12) (hc : c < 11) : 3 ≤ ixG r c ∧ ixG r c < 143 ∧ (ixG r c < 111 ∨ 119 ≤ ixG r c) := by
  rcases ixG_cases (r := r) hc with q | q | q | q | q | q <;> omega
/-- all but the guests -/
def NG (k : Nat) : Prop := k < 3 ∨ (112 ≤ k ∧ k < 119) ∨ 143 ≤ k
theorem LWr_same {t : Nat} {D D' : Nat → Nat → Int32} {w w' : Nat → Int32} (h : LWr t D w) (e0 : D' t = D t) (e1 : D' (t + 1) = D (t + 1)) (ew : ∀ k, (k = 117 ∨ (985 ≤ k ∧ k < 1049)) → w' k = w k) : LWr t D' w' := by
  obtain ⟨h0, h1, n, hn, h3, hc, hx⟩ := h
  unfold LWr
  rw [e0, e1, ew 117 (by omega)]
  refine ⟨h0, h1, n, hn, h3, hc, fun r hr => ?_⟩
  rw [ew (985 + r) (by omega), ew (1001 + r) (by omega), ew (1017 + r) (by omega), ew (1033 + r) (by omega)]
  exact hx r hr
theorem CWr_same {t : Nat} {D D' : Nat → Nat → Int32} {w w' : Nat → Int32} (h : CWr t D w) (e0 : D' t = D t) (e1 : D' (t + 1) = D (t + 1)) (ew : ∀ k, 1050 ≤ k → k < 1850 → w' k = w k) : CWr t D' w' := by
  obtain ⟨h0, h1, n, hn, h3, hx⟩ := h
  unfold CWr
  rw [e0, e1]
  refine ⟨h0, h1, n, hn, h3, fun j hj => ?_⟩
  rw [ew (1050 + 2 * j) (by omega) (by omega), ew (1050 + 2 * j + 1) (by omega) (by omega)]
  exact hx j hj
theorem HSr_oth {h : Nat} {D D' : Nat → Nat → Int32} {w w' : Nat → Int32} (H : HSr h D w) (hG : TWr (h + 1) 11 12 112 ixG D' w') (hD : ∀ j, h + 3 ≤ j → j ≤ h + 16 → D' j = D j) (hc : ∀ c, 8 ≤ c → c ≤ 11 → D' h c = D h c) (hw : ∀ k, NG k → w' k = w k) : HSr h D' w' := by
  obtain ⟨_, t2, t3, t4, t5, t6, t7, t8, c1, c2, c3, c4⟩ := H
  refine ⟨hG, TWr_same t2 (hD _ (by omega) (by omega)) (hD _ (by omega) (by omega)) (hw _ (by unfold NG; omega)) (fun r c hr hcc => hw _ (by unfold NG ixB; omega)), LWr_same t3 (hD _ (by omega) (by omega)) (hD _ (by omega) (by omega)) (fun k hk => hw k (by unfold NG; omega)), CWr_same t4 (hD _ (by omega) (by omega)) (hD _ (by omega) (by omega)) (fun k h1 h2 => hw k (by unfold NG; omega)), TWr_same t5 (hD _ (by omega) (by omega)) (hD _ (by omega) (by omega)) (hw _ (by unfold NG; omega)) (fun r c hr hcc => hw _ (by unfold NG ixS; omega)), TWr_same t6 (hD _ (by omega) (by omega)) (hD _ (by omega) (by omega)) (hw _ (by unfold NG; omega)) (fun r c hr hcc => hw _ (by unfold NG ixH; omega)), TWr_same t7 (hD _ (by omega) (by omega)) (hD _ (by omega) (by omega)) (hw _ (by unfold NG; omega)) (fun r c hr hcc => hw _ (by unfold NG ixR; omega)), TWr_same t8 (hD _ (by omega) (by omega)) (hD _ (by omega) (by omega)) (hw _ (by unfold NG; omega)) (fun r c hr hcc => hw _ (by unfold NG ixC; omega)), ?_, ?_, ?_, ?_⟩
  · rw [hc 8 (by decide) (by decide), hw 113 (by unfold NG; omega)]; exact c1
  · rw [hc 9 (by decide) (by decide), hw 114 (by unfold NG; omega)]; exact c2
  · rw [hc 10 (by decide) (by decide), hw 0 (by unfold NG; omega)]; exact c3
  · rw [hc 11 (by decide) (by decide), hw 1 (by unfold NG; omega)]; exact c4
/-- a guest's cell is put on both sides -/
theorem HSr_put {D : Nat → Nat → Int32} {E : Nat → Nat → Int32} {n g c k : Nat} {v : Int32} (H : HSr 1 D (E 89)) (h3 : D 2 3 = cn n) (hg : g < n) (hn : n ≤ 12) (hc : c < 11) (hk : k = ixG g c) : HSr 1 (mu D 3 (g * 11 + c) v) (mu E 89 k v 89) := by
  have hr := ixG_rng (r := g) (by omega) hc
  refine HSr_oth H ?_ (fun j h1 _ => mu_row (by omega)) (fun j _ _ => congrFun (mu_row (by decide)) j) (fun l hl => mu_cell (Or.inr (by unfold NG at hl; omega)))
  refine TWr_put (r := g) (c := c) (v := v) H.1 h3 hg hc (by decide) (mu_row (by decide)) (fun l => ?_) (mu_cell (Or.inr (by omega))) (fun r' c' hr' hc' => ?_)
  · show mu D 3 (g * 11 + c) v 3 l = _
    rw [mu_ap]
    by_cases e : l = g * 11 + c
    · rw [if_pos ⟨rfl, e⟩, if_pos e]
    · rw [if_neg (fun q => e q.2), if_neg e]
  · rw [mu_ap, hk]
    by_cases e : r' = g ∧ c' = c
    · rw [if_pos ⟨rfl, (ixG_inj (by omega) hc hr' hc').mpr e⟩, if_pos e]
    · rw [if_neg (fun q => e ((ixG_inj (by omega) hc hr' hc').mp q.2)), if_neg e]
/-- a number of the house is put on both sides -/
theorem HSr_num {D : Nat → Nat → Int32} {E : Nat → Nat → Int32} {c k : Nat} {v : Int32} (H : HSr 1 D (E 89)) (hck : (c = 8 ∧ k = 113) ∨ (c = 9 ∧ k = 114) ∨ (c = 10 ∧ k = 0) ∨ (c = 11 ∧ k = 1)) : HSr 1 (mu D 1 c v) (mu E 89 k v 89) := by
  obtain ⟨t1, t2, t3, t4, t5, t6, t7, t8, c1, c2, c3, c4⟩ := H
  have r : ∀ j, j ≠ 1 → mu D 1 c v j = D j := fun j hj => mu_row hj
  have q : ∀ l, l ≠ k → mu E 89 k v 89 l = E 89 l := fun l hl => mu_cell (Or.inr hl)
  refine ⟨TWr_same t1 (r _ (by decide)) (r _ (by decide)) (q _ (by omega)) (fun a b ha hb => q _ (by have := ixG_rng ha hb; omega)), TWr_same t2 (r _ (by decide)) (r _ (by decide)) (q _ (by omega)) (fun a b ha hb => q _ (by unfold ixB; omega)), LWr_same t3 (r _ (by decide)) (r _ (by decide)) (fun l hl => q l (by omega)), CWr_same t4 (r _ (by decide)) (r _ (by decide)) (fun l h1 h2 => q l (by omega)), TWr_same t5 (r _ (by decide)) (r _ (by decide)) (q _ (by omega)) (fun a b ha hb => q _ (by unfold ixS; omega)), TWr_same t6 (r _ (by decide)) (r _ (by decide)) (q _ (by omega)) (fun a b ha hb => q _ (by unfold ixH; omega)), TWr_same t7 (r _ (by decide)) (r _ (by decide)) (q _ (by omega)) (fun a b ha hb => q _ (by unfold ixR; omega)), TWr_same t8 (r _ (by decide)) (r _ (by decide)) (q _ (by omega)) (fun a b ha hb => q _ (by unfold ixC; omega)), ?_, ?_, ?_, ?_⟩
  · by_cases e : c = 8
    · have ek : k = 113 := by omega
      subst e; subst ek; exact mu_same.trans mu_same.symm
    · rw [mu_cell (Or.inr (Ne.symm e)), q 113 (by omega)]; exact c1
  · by_cases e : c = 9
    · have ek : k = 114 := by omega
      subst e; subst ek; exact mu_same.trans mu_same.symm
    · rw [mu_cell (Or.inr (Ne.symm e)), q 114 (by omega)]; exact c2
  · by_cases e : c = 10
    · have ek : k = 0 := by omega
      subst e; subst ek; exact mu_same.trans mu_same.symm
    · rw [mu_cell (Or.inr (Ne.symm e)), q 0 (by omega)]; exact c3
  · by_cases e : c = 11
    · have ek : k = 1 := by omega
      subst e; subst ek; exact mu_same.trans mu_same.symm
    · rw [mu_cell (Or.inr (Ne.symm e)), q 1 (by omega)]; exact c4
/-! a line of the book -/
theorem al_5 : m_alen (4 + 1) = 750 := by decide +kernel
theorem lt5 {c : Nat} (h : c < 5) : c = 0 ∨ c = 1 ∨ c = 2 ∨ c = 3 ∨ c = 4 := by omega
def B5 (D : Nat → Nat → Int32) (t p : Nat) (x0 x1 x2 x3 x4 : Int32) : Nat → Nat → Int32 := mu (mu (mu (mu (mu D t p x0) t (p + 1) x1) t (p + 2) x2) t (p + 3) x3) t (p + 4) x4
theorem B5_row {D : Nat → Nat → Int32} {t p j : Nat} {x0 x1 x2 x3 x4 : Int32} (h : j ≠ t) : B5 D t p x0 x1 x2 x3 x4 j = D j := by
  unfold B5
  rw [mu_row h, mu_row h, mu_row h, mu_row h, mu_row h]
theorem B5_out {D : Nat → Nat → Int32} {t p k : Nat} {x0 x1 x2 x3 x4 : Int32} (h : k < p ∨ p + 5 ≤ k) : B5 D t p x0 x1 x2 x3 x4 t k = D t k := by
  unfold B5
  rw [mu_cell (Or.inr (by omega)), mu_cell (Or.inr (by omega)), mu_cell (Or.inr (by omega)), mu_cell (Or.inr (by omega)), mu_cell (Or.inr (by omega))]
theorem B5_in {D : Nat → Nat → Int32} {t p c : Nat} {x0 x1 x2 x3 x4 : Int32} (h : c < 5) : B5 D t p x0 x1 x2 x3 x4 t (p + c) = [x0, x1, x2, x3, x4].getD c 0 := by
  unfold B5
  rcases lt5 h with e | e | e | e | e <;> subst e
  · rw [mu_cell (Or.inr (by omega)), mu_cell (Or.inr (by omega)), mu_cell (Or.inr (by omega)), mu_cell (Or.inr (by omega)), Nat.add_zero, mu_same]; rfl
  · rw [mu_cell (Or.inr (by omega)), mu_cell (Or.inr (by omega)), mu_cell (Or.inr (by omega)), mu_same]; rfl
  · rw [mu_cell (Or.inr (by omega)), mu_cell (Or.inr (by omega)), mu_same]; rfl
  · rw [mu_cell (Or.inr (by omega)), mu_same]; rfl
  · rw [mu_same]; rfl
/-- the class writes a line .. -/
theorem V_write {a : mG} {nb : Nat} {x y z u : Int32} (h0 : a.1 4 0 = cn 150) (h1 : a.1 4 1 = cn 5) (h3 : a.1 4 3 = cn nb) (hb : nb ≤ 150) : F_X2_write 1 x y z u a = some (if nb < 150 then (B5 (mu a.1 4 3 (cn (nb + 1))) 5 (nb * 5) (a.1 1 10) x y z u, a.2) else a) := by
  unfold F_X2_write
  rw [show (1 + 3 : Nat) = 4 from rfl, V_full h0 h3 (by omega) (by decide)]
  by_cases hn : nb < 150
  · rw [if_pos hn, if_pos hn, b1_some, if_pos c0e0, V_add h0 h3 (by decide) hn, b2_some]
    have put : ∀ (D : Nat → Nat → Int32) (c : Nat) (k v : Int32), k = cn c → c < 5 → D 4 = mu a.1 4 3 (cn (nb + 1)) 4 → F_X10_put 4 (cn nb) k v (D, a.2) = some (mu D 5 (nb * 5 + c) v, a.2) := fun D c k v hk hc hD => by
      refine V_put (t := 4) (s := (D, a.2)) (r := nb) (c := c) (n := nb + 1) (W := 5) rfl hk ?_ ?_ (by omega) hc (by rw [al_5]; omega) (by omega)
      · show D 4 1 = _
        rw [hD, mu_cell (by decide)]; exact h1
      · show D 4 3 = _
        rw [hD, mu_same]
    have e10 : ((mu a.1 4 3 (cn (nb + 1)), a.2) : mG).1 1 10 = a.1 1 10 := congrFun (mu_rowQ (by decide)) 10
    rw [e10, put _ 0 (ci 0) _ rfl (by decide) rfl, b1_some, put _ 1 (ci 1) _ rfl (by decide) (mu_row (by decide)), b1_some, put _ 2 (ci 2) _ rfl (by decide) ((mu_row (by decide)).trans (mu_row (by decide))), b1_some, put _ 3 (ci 3) _ rfl (by decide) ((mu_row (by decide)).trans ((mu_row (by decide)).trans (mu_row (by decide)))), b1_some, put _ 4 (ci 4) _ rfl (by decide) ((mu_row (by decide)).trans ((mu_row (by decide)).trans ((mu_row (by decide)).trans (mu_row (by decide))))), b1_some]
    rfl
  · rw [if_neg hn, if_neg hn, b1_some, if_neg c1n0]
/-- .. and the reference -/
theorem V_notes {b : mG} {nb : Nat} {x y z u : Int32} (h : b.1 89 2 = cn nb) (hb : nb ≤ 150) : pk (F_X12_notes x y z u b) (fun s => s = if nb < 150 then (mu (B5 b.1 89 (235 + 5 * nb) (b.1 89 0) x y z u) 89 2 (cn (nb + 1)), b.2) else b) := by
  unfold F_X12_notes
  rw [h]
  by_cases hn : nb < 150
  · rw [if_neg (fun e => absurd ((cn_inj (b := 150) (by omega) (by decide)).mp (e.trans (by decide))) (by omega)), if_pos hn]
    have e5 : c16 235 + (ci 5) * cn nb = cn (235 + 5 * nb) := by
      rw [show (ci 5) * cn nb = cn (5 * nb) from cn_mul (a := 5) (by omega) (by omega) (by omega)]
      exact cn_add (a := 235) (by omega)
    dsimp only
    rw [e5, show cn (235 + 5 * nb) + ci 1 = cn (235 + 5 * nb + 1) from cn_add (b := 1) (by omega), show cn (235 + 5 * nb) + ci 2 = cn (235 + 5 * nb + 2) from cn_add (b := 2) (by omega), show cn (235 + 5 * nb) + ci 3 = cn (235 + 5 * nb + 3) from cn_add (b := 3) (by omega), show cn (235 + 5 * nb) + ci 4 = cn (235 + 5 * nb + 4) from cn_add (b := 4) (by omega), cn_nat (n := 235 + 5 * nb) (by omega), cn_nat (n := 235 + 5 * nb + 1) (by omega), cn_nat (n := 235 + 5 * nb + 2) (by omega), cn_nat (n := 235 + 5 * nb + 3) (by omega), cn_nat (n := 235 + 5 * nb + 4) (by omega)]
    have e2 : mu (mu (mu (mu (mu b.1 89 (235 + 5 * nb) (b.1 89 0)) 89 (235 + 5 * nb + 1) x) 89 (235 + 5 * nb + 2) y) 89 (235 + 5 * nb + 3) z) 89 (235 + 5 * nb + 4) u 89 2 = cn nb := by
      rw [mu_cell (Or.inr (by omega)), mu_cell (Or.inr (by omega)), mu_cell (Or.inr (by omega)), mu_cell (Or.inr (by omega)), mu_cell (Or.inr (by omega))]
      exact h
    rw [e2, cnu (by omega)]
    exact pk_nn (pk_nn (pk_nn (pk_nn (pk_nn (pk_some rfl)))))
  · rw [if_pos (show cn nb = c16 150 by rw [show nb = 150 by omega]; decide), if_neg hn]
    exact pk_some rfl
theorem HSr_book {D E : Nat → Nat → Int32} {nb : Nat} {x0 x y z u : Int32} (H : HSr 1 D (E 89)) (h3 : D 4 3 = cn nb) (hn : nb < 150) : HSr 1 (B5 (mu D 4 3 (cn (nb + 1))) 5 (nb * 5) x0 x y z u) (mu (B5 E 89 (235 + 5 * nb) x0 x y z u) 89 2 (cn (nb + 1)) 89) := by
  obtain ⟨t1, t2, t3, t4, t5, t6, t7, t8, c1, c2, c3, c4⟩ := H
  have r : ∀ j, j ≠ 4 → j ≠ 5 → B5 (mu D 4 3 (cn (nb + 1))) 5 (nb * 5) x0 x y z u j = D j := fun j h1 h2 => (B5_row h2).trans (mu_row h1)
  have q : ∀ l, l ≠ 2 → (l < 235 ∨ 985 ≤ l) → mu (B5 E 89 (235 + 5 * nb) x0 x y z u) 89 2 (cn (nb + 1)) 89 l = E 89 l := fun l h1 h2 => (mu_cell (Or.inr h1)).trans (B5_out (by omega))
  refine ⟨TWr_same t1 (r _ (by decide) (by decide)) (r _ (by decide) (by decide)) (q _ (by omega) (by omega)) (fun a b ha hb => q _ (by have := ixG_rng ha hb; omega) (by have := ixG_rng ha hb; omega)), ?_, LWr_same t3 (r _ (by decide) (by decide)) (r _ (by decide) (by decide)) (fun l hl => q l (by omega) (by omega)), CWr_same t4 (r _ (by decide) (by decide)) (r _ (by decide) (by decide)) (fun l h1 h2 => q l (by omega) (by omega)), TWr_same t5 (r _ (by decide) (by decide)) (r _ (by decide) (by decide)) (q _ (by omega) (by omega)) (fun a b ha hb => q _ (by unfold ixS; omega) (by unfold ixS; omega)), TWr_same t6 (r _ (by decide) (by decide)) (r _ (by decide) (by decide)) (q _ (by omega) (by omega)) (fun a b ha hb => q _ (by unfold ixH; omega) (by unfold ixH; omega)), TWr_same t7 (r _ (by decide) (by decide)) (r _ (by decide) (by decide)) (q _ (by omega) (by omega)) (fun a b ha hb => q _ (by unfold ixR; omega) (by unfold ixR; omega)), TWr_same t8 (r _ (by decide) (by decide)) (r _ (by decide) (by decide)) (q _ (by omega) (by omega)) (fun a b ha hb => q _ (by unfold ixC; omega) (by unfold ixC; omega)), ?_, ?_, ?_, ?_⟩
  · refine TWr_add (n := nb) t2 h3 hn (by decide) (fun c hc => ?_) ?_ (fun k hk => ?_) mu_same (fun a b ha hb => ?_) (fun c hc => ?_)
    · rw [B5_row (by decide)]; exact mu_cell (Or.inr hc)
    · rw [B5_row (by decide)]; exact mu_same
    · show B5 _ 5 (nb * 5) x0 x y z u 5 k = D 5 k
      rw [B5_out (by omega)]; exact congrFun (mu_row (by decide)) k
    · rw [mu_cell (Or.inr (by unfold ixB; omega))]
      exact B5_out (by unfold ixB; omega)
    · show B5 _ 5 (nb * 5) x0 x y z u 5 (nb * 5 + c) = _
      rw [B5_in hc, mu_cell (Or.inr (by unfold ixB; omega)), show ixB nb c = 235 + 5 * nb + c from rfl, B5_in hc]
  · rw [r 1 (by decide) (by decide), q 113 (by decide) (by decide)]; exact c1
  · rw [r 1 (by decide) (by decide), q 114 (by decide) (by decide)]; exact c2
  · rw [r 1 (by decide) (by decide), q 0 (by decide) (by decide)]; exact c3
  · rw [r 1 (by decide) (by decide), q 1 (by decide) (by decide)]; exact c4
/-- both write a line -/
theorem R_write {a b : mG} {x y z u : Int32} (H : HSr 1 a.1 (b.1 89)) : rel (F_X2_write 1 x y z u a) (F_X12_notes x y z u b) (fun s t => HSr 1 s.1 (t.1 89) ∧ (∀ j, j ≠ 4 → j ≠ 5 → s.1 j = a.1 j) ∧ (∀ j, j ≠ 89 → t.1 j = b.1 j) ∧ (∀ k, k ≠ 2 → (k < 235 ∨ 985 ≤ k) → t.1 89 k = b.1 89 k) ∧ (b.1 89 2).toInt ≤ (t.1 89 2).toInt) := by
  have H0 := H
  obtain ⟨_, ⟨t0, t1, nb, hb, t3, tc, _⟩, _, _, _, _, _, _, _, _, c3, _⟩ := H
  rw [V_write t0 t1 t3 hb]
  intro s hs t ht
  have et := V_notes tc hb t ht
  have es := Option.some.inj hs
  subst et; subst es
  by_cases hn : nb < 150
  · rw [if_pos hn, if_pos hn, c3]
    refine ⟨HSr_book H0 t3 hn, fun j h1 h2 => ?_, fun j hj => ?_, fun k h1 h2 => ?_, ?_⟩
    all_goals dsimp only
    · exact (B5_row h2).trans (mu_row h1)
    · exact (mu_row hj).trans (B5_row hj)
    · exact (mu_cell (Or.inr h1)).trans (B5_out (by omega))
    · rw [mu_same, tc, t_cn (by omega), t_cn (by omega)]; omega
  · rw [if_neg hn, if_neg hn]
    exact ⟨H0, fun _ _ _ => rfl, fun _ _ => rfl, fun _ _ _ => rfl, Int.le_refl _⟩
/-! who hangs on a hook; which clerk stands at a door -/
theorem whl_cong {σ ρ : Type} {f g : σ → Option (σ ⊕ ρ)} (P : σ → Prop) (hfg : ∀ v, P v → f v = g v) (hP : ∀ v v', P v → f v = some (.inl v') → P v') : ∀ v x, P v → whl f v = some x → whl g v = some x := by
  intro v x hv h
  obtain ⟨n, hn⟩ := whl_spec.mp h
  refine whl_spec.mpr ⟨n, ?_⟩
  clear h
  induction n generalizing v with
  | zero => cases hn
  | succ n ih =>
    unfold lp at hn ⊢
    rw [← hfg v hv]
    cases hf : f v with
    | none => rw [hf] at hn; cases hn
    | some s =>
      rw [hf] at hn
      cases s with
      | inl v' => exact ih v' (hP v v' hv hf) hn
      | inr a => exact hn
theorem rel_cong {σ ρ : Type} {f g : σ → Option (σ ⊕ ρ)} (P : σ → Prop) {Q : ρ → Prop} {v : σ} (hv : P v) (h : ∀ v, P v → rel (f v) (g v) (fun x y => x = y ∧ se P Q x)) : rel (whl f v) (whl g v) (fun x y => x = y ∧ Q x) := fun x hx y hy => by
  obtain ⟨n, hn⟩ := whl_spec.mp hx
  obtain ⟨m, hm⟩ := whl_spec.mp hy
  clear hx hy
  induction n generalizing v m with
  | zero => cases hn
  | succ n ih =>
    cases m with
    | zero => cases hm
    | succ m =>
      unfold lp at hn hm
      cases hf : f v with
      | none => rw [hf] at hn; cases hn
      | some s =>
        cases hg : g v with
        | none => rw [hg] at hm; cases hm
        | some t =>
          obtain ⟨e, q⟩ := h v hv s hf t hg
          subst e
          rw [hf] at hn
          rw [hg] at hm
          cases s with
          | inl v' => exact ih q hn m hm
          | inr a =>
            have e1 := Option.some.inj hn
            have e2 := Option.some.inj hm
            subst e1; subst e2
            exact ⟨rfl, q⟩
theorem R_keyOn {a b : mG} {n : Nat} {x : Int32} (H : HSr 1 a.1 (b.1 89)) (h3 : a.1 2 3 = cn n) (hn : n ≤ 12) : rel (F_X2_keyOn 1 a x) (F_X12_keyOn b x) (fun u v => u = v) := by
  have h112 : b.1 89 112 = cn n := by
    obtain ⟨⟨_, _, m, hm, g3, gc, _⟩, _⟩ := H
    rw [gc]; exact g3.symm.trans h3
  unfold F_X2_keyOn F_X12_keyOn F_X2_keyOn_L2 F_X12_keyOn_L2
  refine rel_mono (rel_cong (fun v => v.1 = x ∧ ∃ r, r ≤ n ∧ v.2 = cn r) (Q := fun _ => True) ⟨rfl, 0, Nat.zero_le _, rfl⟩ (fun v hv => ?_)) (fun u v q => q.1)
  obtain ⟨x1, x2⟩ := v
  obtain ⟨e1, r, hr, e2⟩ := hv
  have e1 : x1 = x := e1
  have e2 : x2 = cn r := e2
  subst e1; subst e2
  unfold F_X2_keyOn_B2 F_X12_keyOn_B2
  dsimp only
  rw [show a.1 (1 + 1) 3 = cn n from h3, h112]
  by_cases hrn : n ≤ r
  · rw [if_pos ((cn_le (by omega) (by omega)).mpr hrn), if_pos ((cn_le (by omega) (by omega)).mpr hrn)]
    exact rel_some ⟨rfl, trivial⟩
  · rw [if_neg (fun q => hrn ((cn_le (by omega) (by omega)).mp q)), if_neg (fun q => hrn ((cn_le (by omega) (by omega)).mp q)), show c8 15 + cn r = cn (15 + r) from cn_add (a := 15) (by omega), cn_nat (n := 15 + r) (by omega), show (1 + 1 : Nat) = 2 from rfl, V_atG (c := 3) (k := ci 3) H.1 h3 hn (by omega) (by decide) rfl, b1_some]
    refine rel_rg ?_
    rw [show ixG r 3 = 15 + r from rfl]
    by_cases e : b.1 89 (15 + r) = x1
    · rw [if_pos e]; exact rel_some ⟨rfl, trivial⟩
    · rw [if_neg e]; exact rel_some ⟨rfl, rfl, r + 1, by omega, cnu (by omega)⟩
theorem al_13 : m_alen (12 + 1) = 48 := by decide +kernel
theorem V_atH {w : Nat → Int32} {s : mG} {n g c : Nat} {k : Int32} (hG : TWr 12 4 12 116 ixH s.1 w) (h3 : s.1 12 3 = cn n) (hn : n ≤ 12) (hg : g < n) (hc : c < 4) (hk : k = cn c) : F_X10_at 12 s (cn g) k = some (w (ixH g c)) := TWr_at hG h3 hn hg hc rfl hk (by decide) (by rw [al_13]; decide)
theorem R_clerkAt {a b : mG} {x : Int32} (H : HSr 1 a.1 (b.1 89)) : rel (F_X2_clerkAt 1 a x) (F_X12_clerkAt b x) (fun u v => u = v) := by
  obtain ⟨_, _, _, _, _, tH, _, _, _, _, c3, _⟩ := H
  have tH0 := tH
  obtain ⟨_, _, n, hn, h3, h116, _⟩ := tH
  unfold F_X2_clerkAt F_X12_clerkAt F_X2_clerkAt_L2 F_X12_clerkAt_L2
  refine rel_mono (rel_cong (fun v => v.1 = x ∧ ∃ r, r ≤ n ∧ v.2 = cn r) (Q := fun _ => True) ⟨rfl, 0, Nat.zero_le _, rfl⟩ (fun v hv => ?_)) (fun u v q => q.1)
  obtain ⟨x1, x2⟩ := v
  obtain ⟨e1, r, hr, e2⟩ := hv
  have e1 : x1 = x := e1
  have e2 : x2 = cn r := e2
  subst e1; subst e2
  unfold F_X2_clerkAt_B2 F_X12_clerkAt_B2 F_X2_clerkAt_73 F_X12_clerkAt_75
  dsimp only
  rw [show a.1 (1 + 11) 3 = cn n from h3, h116]
  by_cases hrn : n ≤ r
  · rw [if_pos ((cn_le (by omega) (by omega)).mpr hrn), if_pos ((cn_le (by omega) (by omega)).mpr hrn)]
    exact rel_some ⟨rfl, trivial⟩
  · have e4 : c16 155 + (ci 4) * cn r = cn (155 + 4 * r) := by
      rw [show (ci 4) * cn r = cn (4 * r) from cn_mul (a := 4) (by omega) (by omega) (by omega)]
      exact cn_add (a := 155) (by omega)
    rw [if_neg (fun q => hrn ((cn_le (by omega) (by omega)).mp q)), if_neg (fun q => hrn ((cn_le (by omega) (by omega)).mp q)), show (1 + 11 : Nat) = 12 from rfl, V_atH (c := 1) (k := ci 1) tH0 h3 hn (by omega) (by decide) rfl, b1_some, V_atH (c := 3) (k := ci 3) tH0 h3 hn (by omega) (by decide) rfl, b1_some, V_atH (c := 2) (k := ci 2) tH0 h3 hn (by omega) (by decide) rfl, b1_some, V_atH (c := 0) (k := ci 0) tH0 h3 hn (by omega) (by decide) rfl, b1_some, c3, e4, show cn (155 + 4 * r) + ci 3 = cn (155 + 4 * r + 3) from cn_add (b := 3) (by omega), show cn (155 + 4 * r) + ci 1 = cn (155 + 4 * r + 1) from cn_add (b := 1) (by omega), show cn (155 + 4 * r) + ci 2 = cn (155 + 4 * r + 2) from cn_add (b := 2) (by omega), cn_nat (n := 155 + 4 * r + 3) (by omega), cn_nat (n := 155 + 4 * r + 1) (by omega), cn_nat (n := 155 + 4 * r + 2) (by omega), cn_nat (n := 155 + 4 * r) (by omega)]
    refine rel_rg ?_
    rw [show ixH r 3 = 155 + 4 * r + 3 from rfl, show ixH r 1 = 155 + 4 * r + 1 from rfl, show ixH r 2 = 155 + 4 * r + 2 from rfl, show ixH r 0 = 155 + 4 * r from rfl]
    by_cases e : b.1 89 (155 + 4 * r + 3) = x1
    · rw [if_pos e, if_pos e]
      refine rel_rg (rel_rg ?_)
      refine rel_ifs Iff.rfl (fun _ => ?_) (fun _ => ?_)
      · exact rel_some ⟨rfl, rfl, r + 1, by omega, cnu (by omega)⟩
      · exact rel_rg (rel_some ⟨rfl, trivial⟩)
    · rw [if_neg e, if_neg e]
      exact rel_some ⟨rfl, rfl, r + 1, by omega, cnu (by omega)⟩
end
end
/-! 5z9.hour -/
section
noncomputable section
/-! ONE GUEST IN AN HOUR, on both sides -/
def se2 {σ ρ σ' ρ' : Type} (P : σ → σ' → Prop) (Q : ρ → ρ' → Prop) : σ ⊕ ρ → σ' ⊕ ρ' → Prop
  | .inl a, .inl b => P a b
  | .inr a, .inr b => Q a b
  | _, _ => False
theorem rel_whl {σ ρ σ' ρ' : Type} {f : σ → Option (σ ⊕ ρ)} {g : σ' → Option (σ' ⊕ ρ')} (P : σ → σ' → Prop) {Q : ρ → ρ' → Prop} {v : σ} {w : σ'} (hv : P v w) (h : ∀ v w, P v w → rel (f v) (g w) (se2 P Q)) : rel (whl f v) (whl g w) Q := fun x hx y hy => by
  obtain ⟨n, hn⟩ := whl_spec.mp hx
  obtain ⟨m, hm⟩ := whl_spec.mp hy
  clear hx hy
  induction n generalizing v w m with
  | zero => cases hn
  | succ n ih =>
    cases m with
    | zero => cases hm
    | succ m =>
      unfold lp at hn hm
      cases hf : f v with
      | none => rw [hf] at hn; cases hn
      | some s =>
        cases hg : g w with
        | none => rw [hg] at hm; cases hm
        | some t =>
          have q := h v w hv s hf t hg
          rw [hf] at hn
          rw [hg] at hm
          cases s with
          | inl v' =>
            cases t with
            | inl w' => exact ih q hn m hm
            | inr b => cases q
          | inr a =>
            cases t with
            | inl w' => cases q
            | inr b =>
              have e1 := Option.some.inj hn
              have e2 := Option.some.inj hm
              subst e1; subst e2
              exact q
theorem rel_nl {α β : Type} {y : Option β} {R : α → β → Prop} : rel none y R := fun _ e => by cases e
theorem rel_nr {α β : Type} {x : Option α} {R : α → β → Prop} : rel x none R := fun _ _ _ e => by cases e
theorem mu_comm {D : Nat → Nat → Int32} {i j k l : Nat} {u v : Int32} (h : i ≠ j ∨ k ≠ l) : mu (mu D i k u) j l v = mu (mu D j l v) i k u := by
  funext p q
  rw [mu_ap, mu_ap, mu_ap, mu_ap]
  by_cases h1 : p = j ∧ q = l
  · rw [if_pos h1, if_neg (by omega), if_pos h1]
  · rw [if_neg h1]
    by_cases h2 : p = i ∧ q = k
    · rw [if_pos h2, if_pos h2]
    · rw [if_neg h2, if_neg h2, if_neg h1]
theorem mu_idd {D : Nat → Nat → Int32} {i k : Nat} {v : Int32} (h : D i k = v) : mu D i k v = D := by
  funext p q
  rw [mu_ap]
  by_cases e : p = i ∧ q = k
  · rw [if_pos e, e.1, e.2, h]
  · rw [if_neg e]
/-! draws -/
def nxD (x : Int32) : Int32 := x * ci 1664525 + ci 1013904223
def dvD (x : Int32) : Int32 := rm (ushr (nxD x) (c8 8)) (c16 1000)
theorem V_drawC {a : mG} : F_X2_drawThousand 1 a = some (dvD (a.1 1 11), (mu a.1 1 11 (nxD (a.1 1 11)), a.2)) := by
  unfold F_X2_drawThousand
  dsimp only
  rw [mu_same]
  rfl
theorem V_drawR {b : mG} : F_X12_draw (c16 1000) b = some (dvD (b.1 89 1), (mu b.1 89 1 (nxD (b.1 89 1)), b.2)) := by
  unfold F_X12_draw
  dsimp only
  rw [if_neg (by decide), mu_same, Int32.mul_comm]
  rfl
theorem V_isDrawn {a : mG} {k : Nat} {e : Int32} (he : e = cn k) (hk : k < 5) : F_X6_isDrawn e a = some (if a.1 72 k ≤ dvD (a.1 1 11) then ci 0 else ci 1, (mu a.1 1 11 (nxD (a.1 1 11)), a.2)) := by
  unfold F_X6_isDrawn
  rw [V_drawC, b2_some, he, V_cellJ sh72 hk (by decide), b1_some, show ((mu a.1 1 11 (nxD (a.1 1 11)), a.2) : mG).1 72 k = a.1 72 k from congrFun (mu_rowQ (by decide)) k]
  by_cases h : a.1 72 k ≤ dvD (a.1 1 11)
  · rw [if_pos h, if_pos h]
  · rw [if_neg h, if_neg h]
/-- what stays of the class, what of the reference -/
def CFh (a u : mG) : Prop := ∀ j, j ≠ 1 → j ≠ 3 → j ≠ 4 → j ≠ 5 → j ≠ 69 → j ≠ 70 → j ≠ 72 → u.1 j = a.1 j
def RFh (b u : mG) : Prop := (∀ j, j ≠ 89 → j ≠ 96 → j ≠ 97 → u.1 j = b.1 j) ∧ (∀ k, ((111 ≤ k ∧ k < 235) ∨ 985 ≤ k) → u.1 89 k = b.1 89 k) ∧ (b.1 89 2).toInt ≤ (u.1 89 2).toInt
theorem CFh_rfl {a : mG} : CFh a a := fun _ _ _ _ _ _ _ _ => rfl
theorem RFh_rfl {a : mG} : RFh a a := ⟨fun _ _ _ _ => rfl, fun _ _ => rfl, Int.le_refl _⟩
theorem CFh_tr {a u v : mG} (h : CFh a u) (k : CFh u v) : CFh a v := fun j h1 h2 h3 h4 h5 h6 h7 => (k j h1 h2 h3 h4 h5 h6 h7).trans (h j h1 h2 h3 h4 h5 h6 h7)
theorem RFh_tr {a u v : mG} (h : RFh a u) (k : RFh u v) : RFh a v := ⟨fun j h1 h2 h3 => (k.1 j h1 h2 h3).trans (h.1 j h1 h2 h3), fun j hj => (k.2.1 j hj).trans (h.2.1 j hj), Int.le_trans h.2.2 k.2.2⟩
theorem RFh_2 {b u : mG} (h1 : ∀ j, j ≠ 89 → j ≠ 96 → j ≠ 97 → u.1 j = b.1 j) (h2 : ∀ k, ((111 ≤ k ∧ k < 235) ∨ 985 ≤ k) → u.1 89 k = b.1 89 k) (e : u.1 89 2 = b.1 89 2) : RFh b u := ⟨h1, h2, by rw [e]; exact Int.le_refl _⟩
theorem R_tail {a b : mG} {d x wh : Int32} (H : HSr 1 a.1 (b.1 89)) : rel (b1 (F_X2_clerkAt 1 a d) fun v18 => b1 (F_X2_write 1 wh x d v18 a) fun s20 => some (ci 1, s20)) (F_X12_isMoved_147 x d wh b) (fun τ υ => τ.1 = ci 1 ∧ υ.1 = ci 1 ∧ HSr 1 τ.2.1 (υ.2.1 89) ∧ (∀ j, j ≠ 4 → j ≠ 5 → τ.2.1 j = a.1 j) ∧ (∀ j, j ≠ 89 → υ.2.1 j = b.1 j) ∧ (∀ k, k ≠ 2 → (k < 235 ∨ 985 ≤ k) → υ.2.1 89 k = b.1 89 k) ∧ (b.1 89 2).toInt ≤ (υ.2.1 89 2).toInt) := by
  unfold F_X12_isMoved_147
  refine rel_b1 (R_clerkAt H) (fun u v e => ?_)
  subst e
  refine rel_b1 (R_write H) (fun s t q => rel_some ⟨rfl, rfl, q⟩)
def MQo (g : Nat) (a b : mG) (τ υ : Int32 × mG) : Prop := τ.1 = υ.1 ∧ PB τ.1 ∧ HSr 1 τ.2.1 (υ.2.1 89) ∧ CFh a τ.2 ∧ RFh b υ.2 ∧ υ.2.1 89 0 = b.1 89 0 ∧ (∀ k, 3 ≤ k → k < 111 → k ≠ 3 + g → k ≠ 15 + g → υ.2.1 89 k = b.1 89 k) ∧ PBz (υ.2.1 89 (3 + g)) ∧ (υ.2.1 89 (3 + g) = ci 0 → υ.2.1 89 (15 + g) = ci (-1))
theorem V_putG {s : mG} {n g c : Nat} {k v : Int32} (h1 : s.1 2 1 = cn 11) (h3 : s.1 2 3 = cn n) (hn : n ≤ 12) (hg : g < n) (hc : c < 11) (hk : k = cn c) : F_X10_put 2 (cn g) k v s = some (mu s.1 3 (g * 11 + c) v, s.2) :=
  V_put (t := 2) (r := g) (c := c) (n := n) (W := 11) rfl hk h1 h3 hg hc (by rw [al_G]; omega) (by omega)
theorem rm_nb : ∀ n, n < 13 → ∀ g, g < n → rm (cn g + ci 1) (cn n) = cn (if g + 1 < n then g + 1 else 0) := by decide +kernel
theorem V_hasKey {a : mG} {x : Int32} : F_X2_hasKey 1 a x = b1 (F_X2_keyOn 1 a x) fun v2 => if v2 = ci (-1) then some (ci 0) else some (ci 1) := rfl
/-- the hook, here and there; the key of him who goes is on none -/
def HKo (g : Nat) (a b : mG) (s : mG) (τ : Int32 × mG) : Prop := τ.2 = b ∧ ((τ.1 = ci (-1) ∧ s = a) ∨ s = (mu a.1 3 (g * 11 + 3) τ.1, a.2))
theorem R_51 {a b : mG} {n g : Nat} {x : Int32} (H : HSr 1 a.1 (b.1 89)) (h3 : a.1 2 3 = cn n) (hn : n ≤ 12) (hg : g < n) : rel (F_X6_hangKey_51 (cn g) x a) (F_X12_hangsOn_62 x b) (HKo g a b) := by
  have h1 : a.1 2 1 = cn 11 := H.1.2.1
  unfold F_X6_hangKey_51 F_X12_hangsOn_62
  rw [V_hasKey, b1_b1]
  refine rel_b1 (R_keyOn H h3 hn) (fun u v e => ?_)
  subst e
  by_cases h : u = ci (-1)
  · rw [if_pos h, if_pos h, b1_some, if_pos c0e0, V_putG h1 h3 hn hg (c := 3) (k := ci 3) (by decide) rfl, b1_some]
    exact rel_some ⟨rfl, Or.inr rfl⟩
  · rw [if_neg h, if_neg h, b1_some, if_neg c1n0]
    exact rel_some ⟨rfl, Or.inl ⟨rfl, rfl⟩⟩
theorem R_33 {a b : mG} {n g : Nat} {x : Int32} (H : HSr 1 a.1 (b.1 89)) (h3 : a.1 2 3 = cn n) (hn : n ≤ 12) (hg : g < n) : rel (F_X6_hangKey_33 (cn g) x a) (b1 (F_X12_keyOn b x) fun v16 => if v16 = ci (-1) then some (x, b) else F_X12_hangsOn_62 (cn g) b) (HKo g a b) := by
  have h1 : a.1 2 1 = cn 11 := H.1.2.1
  unfold F_X6_hangKey_33 F_X6_hangKey_50
  rw [V_hasKey, b1_b1]
  have q := R_keyOn (x := x) H h3 hn
  cases hC : F_X2_keyOn 1 a x with
  | none => exact rel_nl
  | some u =>
    cases hR : F_X12_keyOn b x with
    | none => exact rel_nr
    | some v =>
      have e := q u hC v hR
      subst e
      rw [b1_some, b1_some]
      by_cases h : u = ci (-1)
      · rw [if_pos h, if_pos h, b1_some, if_pos c0e0]
        unfold F_X6_hangKey_51
        rw [V_hasKey, hC, b1_some, if_pos h, b1_some, if_pos c0e0, V_putG h1 h3 hn hg (c := 3) (k := ci 3) (by decide) rfl, b1_some]
        exact rel_some ⟨rfl, Or.inr rfl⟩
      · rw [if_neg h, if_neg h, b1_some, if_neg c1n0]
        exact R_51 H h3 hn hg
theorem R_36 {a b : mG} {n g : Nat} {d T2 T3 : Int32} (H : HSr 1 a.1 (b.1 89)) (h3 : a.1 2 3 = cn n) (hn : n ≤ 12) (hg : g < n) (e2 : a.1 72 2 = T2) (e3 : a.1 72 3 = T3) (hk : b.1 89 (15 + g) = ci (-1)) (ho : b.1 89 (3 + g) = ci 1) : rel (F_X6_goes_36 (cn g) d a) (b2 (F_X12_hangsOn (cn g) T2 T3 b) fun v30 s29 => F_X12_isMoved_136 (cn g) (ci 0) d (c8 15 + cn g) v30 s29) (MQo g a b) := by
  have h112 : b.1 89 112 = cn n := by
    obtain ⟨⟨_, _, m, hm, g3, gc, _⟩, _⟩ := H
    rw [gc]; exact g3.symm.trans h3
  have x11 : a.1 1 11 = b.1 89 1 := H.2.2.2.2.2.2.2.2.2.2.2
  have fin : ∀ (a1 b1' s : mG) (τ : Int32 × mG), HSr 1 a1.1 (b1'.1 89) → (∀ j, j ≠ 1 → a1.1 j = a.1 j) → (∀ j, j ≠ 89 → b1'.1 j = b.1 j) → (∀ k, k ≠ 1 → b1'.1 89 k = b.1 89 k) → HKo g a1 b1' s τ → rel (F_X6_goes_50 (cn g) d s) (F_X12_isMoved_136 (cn g) (ci 0) d (c8 15 + cn g) τ.1 τ.2) (MQo g a b) := by
    intro a1 b1' s τ H1 ra rb rk hq
    obtain ⟨q1, q2⟩ := hq
    unfold F_X6_goes_50 F_X12_isMoved_136
    rw [show c8 15 + cn g = cn (15 + g) from cn_add (a := 15) (by omega), cn_nat (n := 15 + g) (by omega), q1]
    dsimp only
    rw [if_pos c0e0]
    have h31 : a1.1 2 3 = cn n := by rw [ra 2 (by decide)]; exact h3
    have Hs : HSr 1 s.1 (mu b1'.1 89 (15 + g) τ.1 89) ∧ ∀ j, j ≠ 3 → s.1 j = a1.1 j := by
      rcases q2 with ⟨q2, q3⟩ | q2
      · subst q3
        rw [mu_idd (by rw [rk _ (by omega), q2]; exact hk)]
        exact ⟨H1, fun _ _ => rfl⟩
      · subst q2
        exact ⟨HSr_put H1 h31 hg hn (by decide) rfl, fun j hj => mu_row hj⟩
    refine rel_rg (rel_mono (R_tail (b := (mu b1'.1 89 (15 + g) τ.1, b1'.2)) Hs.1) (fun τ' υ q => ?_))
    obtain ⟨p1, p2, p3, p4, p5, p6, p7⟩ := q
    have p7 : (mu b1'.1 89 (15 + g) τ.1 89 2).toInt ≤ (υ.2.1 89 2).toInt := p7
    rw [mu_cell (Or.inr (by omega)), rk 2 (by decide)] at p7
    have c89 : ∀ k, k ≠ 1 → k ≠ 2 → (k < 235 ∨ 985 ≤ k) → k ≠ 15 + g → υ.2.1 89 k = b.1 89 k := fun k h1 h2 h3 h4 => by
      rw [p6 k h2 h3]
      exact (mu_cellQ (Or.inr h4)).trans (rk k h1)
    refine ⟨p1.trans p2.symm, by rw [p1]; exact pb1, p3, fun j h1 h2 h3 h4 _ _ _ => ?_, ⟨fun j h1 _ _ => ?_, fun k hk => c89 k (by omega) (by omega) (by omega) (by omega), p7⟩, c89 0 (by omega) (by omega) (by omega) (by omega), fun k h1 h2 _ h4 => c89 k (by omega) (by omega) (by omega) h4, ?_, fun e => ?_⟩
    · rw [p4 j h3 h4, Hs.2 j h2, ra j h1]
    · rw [p5 j h1]
      exact (mu_rowQ h1).trans (rb j h1)
    · rw [c89 (3 + g) (by omega) (by omega) (by omega) (by omega), ho]; exact Or.inr rfl
    · rw [c89 (3 + g) (by omega) (by omega) (by omega) (by omega), ho] at e
      exact absurd e (by decide)
  unfold F_X6_goes_36 F_X12_hangsOn
  rw [V_isDrawn (k := 2) (e := ci 2) (by decide) (by decide), b2_some, V_drawR, b2_some, e2, x11]
  have H1 : HSr 1 (mu a.1 1 11 (nxD (b.1 89 1))) (mu b.1 89 1 (nxD (b.1 89 1)) 89) := HSr_num H (Or.inr (Or.inr (Or.inr ⟨rfl, rfl⟩)))
  have ra1 : ∀ j, j ≠ 1 → ((mu a.1 1 11 (nxD (b.1 89 1)), a.2) : mG).1 j = a.1 j := fun j hj => mu_rowQ hj
  have rb1 : ∀ j, j ≠ 89 → ((mu b.1 89 1 (nxD (b.1 89 1)), b.2) : mG).1 j = b.1 j := fun j hj => mu_rowQ hj
  have rk1 : ∀ k, k ≠ 1 → ((mu b.1 89 1 (nxD (b.1 89 1)), b.2) : mG).1 89 k = b.1 89 k := fun k hk => mu_cellQ (Or.inr hk)
  have y11 : ((mu a.1 1 11 (nxD (b.1 89 1)), a.2) : mG).1 1 11 = ((mu b.1 89 1 (nxD (b.1 89 1)), b.2) : mG).1 89 1 := mu_sameQ.trans mu_sameQ.symm
  have H1 : HSr 1 ((mu a.1 1 11 (nxD (b.1 89 1)), a.2) : mG).1 (((mu b.1 89 1 (nxD (b.1 89 1)), b.2) : mG).1 89) := H1
  generalize dvD (b.1 89 1) = dv1
  generalize ((mu a.1 1 11 (nxD (b.1 89 1)), a.2) : mG) = a1 at *
  generalize ((mu b.1 89 1 (nxD (b.1 89 1)), b.2) : mG) = b1' at *
  by_cases hc : T2 ≤ dv1
  · rw [if_pos hc, if_pos hc, if_pos c0e0]
    unfold F_X6_hangKey
    have e31 : a1.1 72 3 = T3 := by rw [ra1 72 (by decide)]; exact e3
    rw [V_isDrawn (k := 3) (e := ci 3) (by decide) (by decide), b2_some, V_drawR, b2_some, e31, y11]
    have H2 : HSr 1 (mu a1.1 1 11 (nxD (b1'.1 89 1))) (mu b1'.1 89 1 (nxD (b1'.1 89 1)) 89) := HSr_num H1 (Or.inr (Or.inr (Or.inr ⟨rfl, rfl⟩)))
    have ra2 : ∀ j, j ≠ 1 → ((mu a1.1 1 11 (nxD (b1'.1 89 1)), a1.2) : mG).1 j = a.1 j := fun j hj => (mu_rowQ hj).trans (ra1 j hj)
    have rb2 : ∀ j, j ≠ 89 → ((mu b1'.1 89 1 (nxD (b1'.1 89 1)), b1'.2) : mG).1 j = b.1 j := fun j hj => (mu_rowQ hj).trans (rb1 j hj)
    have rk2 : ∀ k, k ≠ 1 → ((mu b1'.1 89 1 (nxD (b1'.1 89 1)), b1'.2) : mG).1 89 k = b.1 89 k := fun k hk => (mu_cellQ (Or.inr hk)).trans (rk1 k hk)
    have H2 : HSr 1 ((mu a1.1 1 11 (nxD (b1'.1 89 1)), a1.2) : mG).1 (((mu b1'.1 89 1 (nxD (b1'.1 89 1)), b1'.2) : mG).1 89) := H2
    generalize hdv : dvD (b1'.1 89 1) = dv2
    generalize ((mu a1.1 1 11 (nxD (b1'.1 89 1)), a1.2) : mG) = a2 at *
    generalize ((mu b1'.1 89 1 (nxD (b1'.1 89 1)), b1'.2) : mG) = b2' at *
    have h32 : a2.1 2 3 = cn n := by rw [ra2 2 (by decide)]; exact h3
    have h122 : b2'.1 89 112 = cn n := by rw [rk2 112 (by decide)]; exact h112
    have wrap : ∀ {X : Option mG} {Y : Option (Int32 × mG)}, rel X Y (HKo g a2 b2') → rel (b1 X fun s16 => F_X6_goes_50 (cn g) d s16) (b2 Y fun v30 s29 => F_X12_isMoved_136 (cn g) (ci 0) d (c8 15 + cn g) v30 s29) (MQo g a b) := fun {X Y} hXY => by
      intro τ hτ υ hυ
      obtain ⟨s, hs, hτ⟩ := m_b1 hτ
      obtain ⟨v, t, ht, hυ⟩ := m_b2 hυ
      exact fin a2 b2' s (v, t) H2 ra2 rb2 rk2 (hXY s hs (v, t) ht) τ hτ υ hυ
    have n0 : ¬ b2'.1 89 112 = 0 := fun e => by
      have := (cn_inj (a := n) (b := 0) (by omega) (by decide)).mp (h122.symm.trans (e.trans (by decide)))
      omega
    unfold F_X12_hangsOn_29
    by_cases hs : T3 ≤ dv2
    · rw [if_pos hs, if_pos hs, if_pos c0e0, if_neg n0]
      dsimp only
      rw [if_pos c0e0]
      exact wrap (R_51 H2 h32 hn hg)
    · rw [if_neg hs, if_neg hs, if_neg c1n0, if_neg n0]
      dsimp only
      rw [if_neg c1n0, h122, rm_nb n (by omega) g hg, h32, cnu (by omega)]
      by_cases hl : g + 1 < n
      · rw [if_neg (fun q => absurd ((cn_le (by omega) (by omega)).mp q) (by omega)), if_pos hl]
        exact wrap (R_33 H2 h32 hn hg)
      · rw [if_pos ((cn_le (by omega) (by omega)).mpr (by omega)), if_neg hl]
        exact wrap (R_33 H2 h32 hn hg)
  · rw [if_neg hc, if_neg hc, if_neg c1n0, b2_some]
    exact fin a1 b1' a1 (ci (-1), b1') H1 ra1 rb1 rk1 ⟨rfl, Or.inl ⟨rfl, rfl⟩⟩
theorem R_goes {a b : mG} {n g : Nat} {T : Nat → Int32} (H : HSr 1 a.1 (b.1 89)) (h3 : a.1 2 3 = cn n) (hn : n ≤ 12) (hg : g < n) (hT : ∀ k, k < 5 → a.1 72 k = T k) (hk : b.1 89 (15 + g) = ci (-1)) (ho : b.1 89 (3 + g) = ci 0) : rel (F_X6_goes (cn g) a) (b2 (F_X12_draw (c16 1000) b) fun v18 s17 => if v18 < T 0 then b2 (F_X12_draw (c16 1000) s17) fun v22 s21 => if T 4 ≤ v22 then F_X12_isMoved_92 (cn g) (ci 0) (T 2) (T 3) (ci 1) s21 else F_X12_isMoved_92 (cn g) (ci 0) (T 2) (T 3) (ci 0) s21 else some (ci 0, s17)) (MQo g a b) := by
  have x11 : a.1 1 11 = b.1 89 1 := H.2.2.2.2.2.2.2.2.2.2.2
  unfold F_X6_goes
  rw [V_isDrawn (k := 0) (e := ci 0) (by decide) (by decide), b2_some, V_drawR, b2_some, hT 0 (by decide), x11]
  have H1 : HSr 1 (mu a.1 1 11 (nxD (b.1 89 1))) (mu b.1 89 1 (nxD (b.1 89 1)) 89) := HSr_num H (Or.inr (Or.inr (Or.inr ⟨rfl, rfl⟩)))
  by_cases hc : T 0 ≤ dvD (b.1 89 1)
  · rw [if_pos hc, if_pos c0e0, if_neg (Int32.not_lt.mpr hc)]
    have q89 : ∀ k, k ≠ 1 → mu b.1 89 1 (nxD (b.1 89 1)) 89 k = b.1 89 k := fun k hk => mu_cell (Or.inr hk)
    refine rel_some ⟨rfl, pb0, H1, fun j h1 _ _ _ _ _ _ => mu_rowQ h1, RFh_2 (fun j h1 _ _ => mu_rowQ h1) (fun k hk => q89 k (by omega)) (q89 2 (by decide)), q89 0 (by decide), fun k h1 _ _ _ => q89 k (by omega), ?_, fun _ => ?_⟩
    · show PBz (mu b.1 89 1 (nxD (b.1 89 1)) 89 (3 + g))
      rw [q89 _ (by omega), ho]; exact Or.inl rfl
    · show mu b.1 89 1 (nxD (b.1 89 1)) 89 (15 + g) = _
      rw [q89 _ (by omega)]; exact hk
  · rw [if_neg hc, if_neg c1n0, if_pos (Int32.not_le.mp hc)]
    have H1 : HSr 1 ((mu a.1 1 11 (nxD (b.1 89 1)), a.2) : mG).1 (((mu b.1 89 1 (nxD (b.1 89 1)), b.2) : mG).1 89) := H1
    have ra1 : ∀ j, j ≠ 1 → ((mu a.1 1 11 (nxD (b.1 89 1)), a.2) : mG).1 j = a.1 j := fun j hj => mu_rowQ hj
    have rb1 : ∀ j, j ≠ 89 → ((mu b.1 89 1 (nxD (b.1 89 1)), b.2) : mG).1 j = b.1 j := fun j hj => mu_rowQ hj
    have rk1 : ∀ k, k ≠ 1 → ((mu b.1 89 1 (nxD (b.1 89 1)), b.2) : mG).1 89 k = b.1 89 k := fun k hk => mu_cellQ (Or.inr hk)
    have y1 : ((mu a.1 1 11 (nxD (b.1 89 1)), a.2) : mG).1 1 11 = ((mu b.1 89 1 (nxD (b.1 89 1)), b.2) : mG).1 89 1 := mu_sameQ.trans mu_sameQ.symm
    generalize ((mu a.1 1 11 (nxD (b.1 89 1)), a.2) : mG) = a1 at *
    generalize ((mu b.1 89 1 (nxD (b.1 89 1)), b.2) : mG) = b1' at *
    have h31 : a1.1 2 3 = cn n := by rw [ra1 2 (by decide)]; exact h3
    rw [V_putG (n := n) (g := g) (c := 2) (k := ci 2) H1.1.2.1 h31 hn hg (by decide) rfl, b1_some]
    have H2 : HSr 1 ((mu a1.1 3 (g * 11 + 2) (ci 1), a1.2) : mG).1 (mu b1'.1 89 (3 + g) (ci 1) 89) := HSr_put H1 h31 hg hn (by decide) rfl
    have ra2 : ∀ j, j ≠ 1 → j ≠ 3 → ((mu a1.1 3 (g * 11 + 2) (ci 1), a1.2) : mG).1 j = a.1 j := fun j h1 h2 => (mu_rowQ h2).trans (ra1 j h1)
    have y2 : ((mu a1.1 3 (g * 11 + 2) (ci 1), a1.2) : mG).1 1 11 = b1'.1 89 1 := (congrFun (mu_rowQ (by decide)) 11).trans y1
    generalize ((mu a1.1 3 (g * 11 + 2) (ci 1), a1.2) : mG) = a2 at *
    rw [V_isDrawn (k := 4) (e := ci 4) (by decide) (by decide), b2_some, V_drawR, b2_some, y2, show a2.1 72 4 = T 4 by rw [ra2 72 (by decide) (by decide)]; exact hT 4 (by decide)]
    have H3 : HSr 1 ((mu a2.1 1 11 (nxD (b1'.1 89 1)), a2.2) : mG).1 (mu ((mu b1'.1 89 1 (nxD (b1'.1 89 1)), b1'.2) : mG).1 89 (3 + g) (ci 1) 89) := by
      show HSr 1 (mu a2.1 1 11 (nxD (b1'.1 89 1))) (mu (mu b1'.1 89 1 (nxD (b1'.1 89 1))) 89 (3 + g) (ci 1) 89)
      rw [mu_comm (i := 89) (j := 89) (k := 1) (l := 3 + g) (Or.inr (by omega))]
      exact HSr_num H2 (Or.inr (Or.inr (Or.inr ⟨rfl, rfl⟩)))
    have ra3 : ∀ j, j ≠ 1 → j ≠ 3 → ((mu a2.1 1 11 (nxD (b1'.1 89 1)), a2.2) : mG).1 j = a.1 j := fun j h1 h2 => (mu_rowQ h1).trans (ra2 j h1 h2)
    have rb3 : ∀ j, j ≠ 89 → ((mu b1'.1 89 1 (nxD (b1'.1 89 1)), b1'.2) : mG).1 j = b.1 j := fun j hj => (mu_rowQ hj).trans (rb1 j hj)
    have rk3 : ∀ k, k ≠ 1 → ((mu b1'.1 89 1 (nxD (b1'.1 89 1)), b1'.2) : mG).1 89 k = b.1 89 k := fun k hk => (mu_cellQ (Or.inr hk)).trans (rk1 k hk)
    generalize dvD (b1'.1 89 1) = dv2
    generalize ((mu a2.1 1 11 (nxD (b1'.1 89 1)), a2.2) : mG) = a3 at *
    generalize ((mu b1'.1 89 1 (nxD (b1'.1 89 1)), b1'.2) : mG) = b3 at *
    have fin : ∀ d : Int32, rel (F_X6_goes_36 (cn g) d a3) (F_X12_isMoved_92 (cn g) (ci 0) (T 2) (T 3) d b3) (MQo g a b) := fun d => by
      unfold F_X12_isMoved_92 F_X12_isMoved_110
      rw [if_pos c0e0, show ci 3 + cn g = cn (3 + g) from cn_add (a := 3) (by omega), cn_nat (n := 3 + g) (by omega)]
      refine rel_rg ?_
      dsimp only
      rw [if_pos c0e0]
      have rb : ∀ j, j ≠ 89 → ((mu b3.1 89 (3 + g) (ci 1), b3.2) : mG).1 j = b.1 j := fun j hj => (mu_rowQ hj).trans (rb3 j hj)
      have rk : ∀ k, k ≠ 1 → k ≠ 3 + g → ((mu b3.1 89 (3 + g) (ci 1), b3.2) : mG).1 89 k = b.1 89 k := fun k h1 h2 => (mu_cellQ (Or.inr h2)).trans (rk3 k h1)
      have ro : ((mu b3.1 89 (3 + g) (ci 1), b3.2) : mG).1 89 (3 + g) = ci 1 := mu_sameQ
      have H4 : HSr 1 a3.1 (((mu b3.1 89 (3 + g) (ci 1), b3.2) : mG).1 89) := H3
      generalize ((mu b3.1 89 (3 + g) (ci 1), b3.2) : mG) = b4 at *
      refine rel_mono (R_36 (n := n) H4 (by rw [ra3 2 (by decide) (by decide)]; exact h3) hn hg (by rw [ra3 72 (by decide) (by decide)]; exact hT 2 (by decide)) (by rw [ra3 72 (by decide) (by decide)]; exact hT 3 (by decide)) (by rw [rk _ (by omega) (by omega)]; exact hk) ro) (fun τ υ q => ?_)
      obtain ⟨q1, q2, q3, q4, q5, q6, q7, q8, q9⟩ := q
      exact ⟨q1, q2, q3, CFh_tr (fun j h1 h2 _ _ _ _ _ => ra3 j h1 h2) q4, RFh_tr (RFh_2 (fun j h1 _ _ => rb j h1) (fun k hk => rk k (by omega) (by omega)) (rk 2 (by omega) (by omega))) q5, q6.trans (rk 0 (by omega) (by omega)), fun k h1 h2 h3 h4 => (q7 k h1 h2 h3 h4).trans (rk k (by omega) h3), q8, q9⟩
    by_cases hf : T 4 ≤ dv2
    · rw [if_pos hf, if_pos hf, if_pos c0e0]; exact fin _
    · rw [if_neg hf, if_neg hf, if_neg c1n0]; exact fin _
theorem R_comes {a b : mG} {n g : Nat} {T : Nat → Int32} (H : HSr 1 a.1 (b.1 89)) (h3 : a.1 2 3 = cn n) (hn : n ≤ 12) (hg : g < n) (hT : ∀ k, k < 5 → a.1 72 k = T k) (ho : b.1 89 (3 + g) = ci 1) : rel (F_X6_comes (cn g) a) (b2 (F_X12_draw (c16 1000) b) fun v18 s17 => if v18 < T 1 then b2 (F_X12_draw (c16 1000) s17) fun v22 s21 => if T 4 ≤ v22 then F_X12_isMoved_92 (cn g) (ci 1) (T 2) (T 3) (ci 1) s21 else F_X12_isMoved_92 (cn g) (ci 1) (T 2) (T 3) (ci 0) s21 else some (ci 0, s17)) (MQo g a b) := by
  have x11 : a.1 1 11 = b.1 89 1 := H.2.2.2.2.2.2.2.2.2.2.2
  unfold F_X6_comes
  rw [V_isDrawn (k := 1) (e := ci 1) (by decide) (by decide), b2_some, V_drawR, b2_some, hT 1 (by decide), x11]
  have H1 : HSr 1 (mu a.1 1 11 (nxD (b.1 89 1))) (mu b.1 89 1 (nxD (b.1 89 1)) 89) := HSr_num H (Or.inr (Or.inr (Or.inr ⟨rfl, rfl⟩)))
  by_cases hc : T 1 ≤ dvD (b.1 89 1)
  · rw [if_pos hc, if_pos c0e0, if_neg (Int32.not_lt.mpr hc)]
    have q89 : ∀ k, k ≠ 1 → mu b.1 89 1 (nxD (b.1 89 1)) 89 k = b.1 89 k := fun k hk => mu_cell (Or.inr hk)
    refine rel_some ⟨rfl, pb0, H1, fun j h1 _ _ _ _ _ _ => mu_rowQ h1, RFh_2 (fun j h1 _ _ => mu_rowQ h1) (fun k hk => q89 k (by omega)) (q89 2 (by decide)), q89 0 (by decide), fun k h1 _ _ _ => q89 k (by omega), ?_, fun e => ?_⟩
    · show PBz (mu b.1 89 1 (nxD (b.1 89 1)) 89 (3 + g))
      rw [q89 _ (by omega), ho]; exact Or.inr rfl
    · have e : mu b.1 89 1 (nxD (b.1 89 1)) 89 (3 + g) = ci 0 := e
      rw [q89 _ (by omega), ho] at e
      exact absurd e (by decide)
  · rw [if_neg hc, if_neg c1n0, if_pos (Int32.not_le.mp hc)]
    have H1 : HSr 1 ((mu a.1 1 11 (nxD (b.1 89 1)), a.2) : mG).1 (((mu b.1 89 1 (nxD (b.1 89 1)), b.2) : mG).1 89) := H1
    have ra1 : ∀ j, j ≠ 1 → ((mu a.1 1 11 (nxD (b.1 89 1)), a.2) : mG).1 j = a.1 j := fun j hj => mu_rowQ hj
    have rb1 : ∀ j, j ≠ 89 → ((mu b.1 89 1 (nxD (b.1 89 1)), b.2) : mG).1 j = b.1 j := fun j hj => mu_rowQ hj
    have rk1 : ∀ k, k ≠ 1 → ((mu b.1 89 1 (nxD (b.1 89 1)), b.2) : mG).1 89 k = b.1 89 k := fun k hk => mu_cellQ (Or.inr hk)
    have y1 : ((mu a.1 1 11 (nxD (b.1 89 1)), a.2) : mG).1 1 11 = ((mu b.1 89 1 (nxD (b.1 89 1)), b.2) : mG).1 89 1 := mu_sameQ.trans mu_sameQ.symm
    generalize ((mu a.1 1 11 (nxD (b.1 89 1)), a.2) : mG) = a1 at *
    generalize ((mu b.1 89 1 (nxD (b.1 89 1)), b.2) : mG) = b1' at *
    have h31 : a1.1 2 3 = cn n := by rw [ra1 2 (by decide)]; exact h3
    rw [V_putG (n := n) (g := g) (c := 2) (k := ci 2) H1.1.2.1 h31 hn hg (by decide) rfl, b1_some]
    have H2 : HSr 1 ((mu a1.1 3 (g * 11 + 2) (ci 0), a1.2) : mG).1 (mu b1'.1 89 (3 + g) (ci 0) 89) := HSr_put H1 h31 hg hn (by decide) rfl
    have ra2 : ∀ j, j ≠ 1 → j ≠ 3 → ((mu a1.1 3 (g * 11 + 2) (ci 0), a1.2) : mG).1 j = a.1 j := fun j h1 h2 => (mu_rowQ h2).trans (ra1 j h1)
    have y2 : ((mu a1.1 3 (g * 11 + 2) (ci 0), a1.2) : mG).1 1 11 = b1'.1 89 1 := (congrFun (mu_rowQ (by decide)) 11).trans y1
    generalize ((mu a1.1 3 (g * 11 + 2) (ci 0), a1.2) : mG) = a2 at *
    have h32 : a2.1 2 3 = cn n := by rw [ra2 2 (by decide) (by decide)]; exact h3
    rw [V_putG (n := n) (g := g) (c := 3) (k := ci 3) H2.1.2.1 h32 hn hg (by decide) rfl, b1_some]
    have H3 : HSr 1 ((mu a2.1 3 (g * 11 + 3) (ci (-1)), a2.2) : mG).1 (mu (mu b1'.1 89 (3 + g) (ci 0)) 89 (15 + g) (ci (-1)) 89) := HSr_put H2 h32 hg hn (by decide) rfl
    have ra3 : ∀ j, j ≠ 1 → j ≠ 3 → ((mu a2.1 3 (g * 11 + 3) (ci (-1)), a2.2) : mG).1 j = a.1 j := fun j h1 h2 => (mu_rowQ h2).trans (ra2 j h1 h2)
    have y3 : ((mu a2.1 3 (g * 11 + 3) (ci (-1)), a2.2) : mG).1 1 11 = b1'.1 89 1 := (congrFun (mu_rowQ (by decide)) 11).trans y2
    generalize ((mu a2.1 3 (g * 11 + 3) (ci (-1)), a2.2) : mG) = a3 at *
    rw [V_isDrawn (k := 4) (e := ci 4) (by decide) (by decide), b2_some, V_drawR, b2_some, y3, show a3.1 72 4 = T 4 by rw [ra3 72 (by decide) (by decide)]; exact hT 4 (by decide)]
    have H4 : HSr 1 ((mu a3.1 1 11 (nxD (b1'.1 89 1)), a3.2) : mG).1 (mu (mu ((mu b1'.1 89 1 (nxD (b1'.1 89 1)), b1'.2) : mG).1 89 (3 + g) (ci 0)) 89 (15 + g) (ci (-1)) 89) := by
      show HSr 1 (mu a3.1 1 11 (nxD (b1'.1 89 1))) (mu (mu (mu b1'.1 89 1 (nxD (b1'.1 89 1))) 89 (3 + g) (ci 0)) 89 (15 + g) (ci (-1)) 89)
      rw [mu_comm (D := b1'.1) (i := 89) (j := 89) (k := 1) (l := 3 + g) (Or.inr (by omega)), mu_comm (i := 89) (j := 89) (k := 1) (l := 15 + g) (Or.inr (by omega))]
      exact HSr_num H3 (Or.inr (Or.inr (Or.inr ⟨rfl, rfl⟩)))
    have ra4 : ∀ j, j ≠ 1 → j ≠ 3 → ((mu a3.1 1 11 (nxD (b1'.1 89 1)), a3.2) : mG).1 j = a.1 j := fun j h1 h2 => (mu_rowQ h1).trans (ra3 j h1 h2)
    have rb4 : ∀ j, j ≠ 89 → ((mu b1'.1 89 1 (nxD (b1'.1 89 1)), b1'.2) : mG).1 j = b.1 j := fun j hj => (mu_rowQ hj).trans (rb1 j hj)
    have rk4 : ∀ k, k ≠ 1 → ((mu b1'.1 89 1 (nxD (b1'.1 89 1)), b1'.2) : mG).1 89 k = b.1 89 k := fun k hk => (mu_cellQ (Or.inr hk)).trans (rk1 k hk)
    generalize dvD (b1'.1 89 1) = dv2
    generalize ((mu a3.1 1 11 (nxD (b1'.1 89 1)), a3.2) : mG) = a4 at *
    generalize ((mu b1'.1 89 1 (nxD (b1'.1 89 1)), b1'.2) : mG) = b4 at *
    have fin : ∀ d : Int32, rel (F_X6_comes_49 (cn g) d a4) (F_X12_isMoved_92 (cn g) (ci 1) (T 2) (T 3) d b4) (MQo g a b) := fun d => by
      unfold F_X12_isMoved_92 F_X12_isMoved_110 F_X12_isMoved_136 F_X6_comes_49
      rw [if_neg c1n0, show ci 3 + cn g = cn (3 + g) from cn_add (a := 3) (by omega), cn_nat (n := 3 + g) (by omega)]
      refine rel_rg ?_
      dsimp only
      rw [if_neg c1n0, show c8 15 + cn g = cn (15 + g) from cn_add (a := 15) (by omega), cn_nat (n := 15 + g) (by omega)]
      refine rel_rg ?_
      rw [if_neg c1n0]
      have rb : ∀ j, j ≠ 89 → ((mu (mu b4.1 89 (3 + g) (ci 0)) 89 (15 + g) (ci (-1)), b4.2) : mG).1 j = b.1 j := fun j hj => (mu_rowQ hj).trans ((mu_row hj).trans (rb4 j hj))
      have rk : ∀ k, k ≠ 1 → k ≠ 3 + g → k ≠ 15 + g → ((mu (mu b4.1 89 (3 + g) (ci 0)) 89 (15 + g) (ci (-1)), b4.2) : mG).1 89 k = b.1 89 k := fun k h1 h2 h3 => (mu_cellQ (Or.inr h3)).trans ((mu_cell (Or.inr h2)).trans (rk4 k h1))
      have ro : ((mu (mu b4.1 89 (3 + g) (ci 0)) 89 (15 + g) (ci (-1)), b4.2) : mG).1 89 (3 + g) = ci 0 := (mu_cellQ (Or.inr (by omega))).trans mu_same
      have rkey : ((mu (mu b4.1 89 (3 + g) (ci 0)) 89 (15 + g) (ci (-1)), b4.2) : mG).1 89 (15 + g) = ci (-1) := mu_sameQ
      have H5 : HSr 1 a4.1 (((mu (mu b4.1 89 (3 + g) (ci 0)) 89 (15 + g) (ci (-1)), b4.2) : mG).1 89) := H4
      generalize ((mu (mu b4.1 89 (3 + g) (ci 0)) 89 (15 + g) (ci (-1)), b4.2) : mG) = b5 at *
      refine rel_mono (R_tail H5) (fun τ υ q => ?_)
      obtain ⟨p1, p2, p3, p4, p5, p6, p7⟩ := q
      rw [rk 2 (by decide) (by omega) (by omega)] at p7
      have c89 : ∀ k, k ≠ 1 → k ≠ 2 → (k < 235 ∨ 985 ≤ k) → k ≠ 3 + g → k ≠ 15 + g → υ.2.1 89 k = b.1 89 k := fun k h1 h2 h3 h4 h5 => (p6 k h2 h3).trans (rk k h1 h4 h5)
      refine ⟨p1.trans p2.symm, by rw [p1]; exact pb1, p3, fun j h1 h2 h3 h4 _ _ _ => (p4 j h3 h4).trans (ra4 j h1 h2), ⟨fun j h1 _ _ => (p5 j h1).trans (rb j h1), fun k hk => c89 k (by omega) (by omega) (by omega) (by omega) (by omega), p7⟩, c89 0 (by omega) (by omega) (by omega) (by omega) (by omega), fun k h1 h2 h4 h5 => c89 k (by omega) (by omega) (by omega) h4 h5, ?_, fun _ => ?_⟩
      · rw [p6 (3 + g) (by omega) (by omega), ro]; exact Or.inl rfl
      · rw [p6 (15 + g) (by omega) (by omega), rkey]
    by_cases hf : T 4 ≤ dv2
    · rw [if_pos hf, if_pos hf, if_pos c0e0]; exact fin _
    · rw [if_neg hf, if_neg hf, if_neg c1n0]; exact fin _
end
end
/-! 5za.hours -/
section
noncomputable section
/-! HOURS, on both sides -/
theorem LWC_of {a u : mG} {w : Nat → Int32} {nc : Nat} (H : HSr 1 a.1 w) (hc : a.1 8 3 = cn nc) (hL : LTy nc w) (e6 : u.1 6 = a.1 6) (e7 : u.1 7 = a.1 7) (e8 : u.1 8 = a.1 8) (e9 : u.1 9 = a.1 9) : LWC nc u.1 w :=
  ⟨LWr_same H.2.2.1 e6 e7 (fun _ _ => rfl), CWr_same H.2.2.2.1 e8 e9 (fun _ _ _ => rfl), by rw [e8]; exact hc, hL⟩
/-- what the law tells of a guest as things are -/
def LVn (w : Nat → Int32) (g k : Nat) : Int32 := LV w (FAc w g (w 0) (w 113) (w (27 + g))) k
theorem V_ask {w : Nat → Int32} {a : mG} {n nc g : Nat} (H : HSr 1 a.1 w) (h3 : a.1 2 3 = cn n) (hn : n ≤ 12) (hg : g < n) (hc : a.1 8 3 = cn nc) (hL : LTy nc w) : pk (F_X6_ask (cn g) a) (fun u => (∀ k, k < 5 → u.1 72 k = LVn w g k) ∧ ∀ j, j ≠ 69 → j ≠ 70 → j ≠ 72 → u.1 j = a.1 j) := by
  unfold F_X6_ask
  refine pk_b1 (V_face H.1 h3 hn hg H.2.2.2.2.2.2.2.2.1 H.2.2.2.2.2.2.2.2.2.1 H.2.2.2.2.2.2.2.2.2.2.1) (fun u q => ?_)
  obtain ⟨hk, hr⟩ := q
  unfold F_X6_ask_L10
  refine pk_whl (fun v => ∃ k, k ≤ 5 ∧ v.1 = cn k ∧ KNc w g (w 0) (w 113) (w (27 + g)) v.2 ∧ (∀ i, i < k → v.2.1 72 i = LVn w g i) ∧ ∀ j, j ≠ 69 → j ≠ 70 → j ≠ 72 → v.2.1 j = a.1 j) ⟨0, by omega, rfl, hk, fun i hi => absurd hi (by omega), fun j h1 _ _ => hr j h1⟩ (fun v hv => ?_)
  obtain ⟨x2, s⟩ := v
  obtain ⟨k, hk5, e1, hK, hI, hF⟩ := hv
  have e1 : x2 = cn k := e1
  have hK : KNc w g (w 0) (w 113) (w (27 + g)) s := hK
  have hI : ∀ i, i < k → s.1 72 i = LVn w g i := hI
  have hF : ∀ j, j ≠ 69 → j ≠ 70 → j ≠ 72 → s.1 j = a.1 j := hF
  subst e1
  unfold F_X6_ask_B10
  dsimp only
  by_cases h5 : k = 5
  · subst h5
    rw [if_pos (Int32.le_refl _)]
    exact pk_some ⟨hI, hF⟩
  · rw [if_neg (fun q => h5 (by have := (cn_le (a := 5) (by decide) (by omega)).mp q; omega))]
    refine pk_b2 (V_tells (f := FAc w g (w 0) (w 113) (w (27 + g))) (LWC_of H hc hL (hF 6 (by decide) (by decide) (by decide)) (hF 7 (by decide) (by decide) (by decide)) (hF 8 (by decide) (by decide) (by decide)) (hF 9 (by decide) (by decide) (by decide))) hK (by omega)) (fun v6 s5 q => ?_)
    obtain ⟨q1, q2⟩ := q
    have q1 : v6 = LVn w g k := q1
    have q2 : ∀ j, j ≠ 70 → s5.1 j = s.1 j := q2
    rw [cn_nat (n := k) (by omega)]
    refine pk_nn (pk_some (show ∃ k, _ from ⟨k + 1, by omega, cnu (by omega), fun j hj => ?_, fun i hi => ?_, fun j h1 h2 h3 => ?_⟩))
    · show mu s5.1 72 k v6 69 j = _
      rw [mu_row (by decide), q2 69 (by decide)]
      exact hK j hj
    · show mu s5.1 72 k v6 72 i = _
      by_cases e : i = k
      · subst e; rw [mu_same, q1]
      · rw [mu_cell (Or.inr e), q2 72 (by decide)]
        exact hI i (by omega)
    · show mu s5.1 72 k v6 j = _
      rw [mu_row h3, q2 j h2]
      exact hF j h1 h2 h3
theorem LTy_same {nc : Nat} {w w' : Nat → Int32} (h : LTy nc w) (e : ∀ k, (k = 117 ∨ 985 ≤ k) → w' k = w k) : LTy nc w' := by
  obtain ⟨h1, n, hn, h2, h3⟩ := h
  refine ⟨h1, n, hn, by rw [e 117 (by omega)]; exact h2, fun r hr => ?_⟩
  obtain ⟨p, q, c, hpq, hqc, hc, z1, z2, z3, z4, z5⟩ := h3 r hr
  have ec : (fun j => w' (1050 + j)) = fun j => w (1050 + j) := by
    funext j
    exact e _ (by omega)
  refine ⟨p, q, c, hpq, hqc, hc, ?_, ?_, ?_, ?_, ?_⟩
  · rw [e _ (by omega)]; exact z1
  · rw [e _ (by omega)]; exact z2
  · rw [e _ (by omega)]; exact z3
  · rw [ec]; exact z4
  · rw [ec]; exact z5
theorem HSr_row {D E : Nat → Nat → Int32} {w : Nat → Int32} (H : HSr 1 D w) (e : ∀ j, j ≠ 69 → j ≠ 70 → j ≠ 72 → E j = D j) : HSr 1 E w := by
  obtain ⟨t1, t2, t3, t4, t5, t6, t7, t8, c1, c2, c3, c4⟩ := H
  have r : ∀ j, j < 69 → E j = D j := fun j hj => e j (by omega) (by omega) (by omega)
  refine ⟨TWr_same t1 (r _ (by decide)) (r _ (by decide)) rfl (fun _ _ _ _ => rfl), TWr_same t2 (r _ (by decide)) (r _ (by decide)) rfl (fun _ _ _ _ => rfl), LWr_same t3 (r _ (by decide)) (r _ (by decide)) (fun _ _ => rfl), CWr_same t4 (r _ (by decide)) (r _ (by decide)) (fun _ _ _ => rfl), TWr_same t5 (r _ (by decide)) (r _ (by decide)) rfl (fun _ _ _ _ => rfl), TWr_same t6 (r _ (by decide)) (r _ (by decide)) rfl (fun _ _ _ _ => rfl), TWr_same t7 (r _ (by decide)) (r _ (by decide)) rfl (fun _ _ _ _ => rfl), TWr_same t8 (r _ (by decide)) (r _ (by decide)) rfl (fun _ _ _ _ => rfl), ?_, ?_, ?_, ?_⟩
  · rw [r 1 (by decide)]; exact c1
  · rw [r 1 (by decide)]; exact c2
  · rw [r 1 (by decide)]; exact c3
  · rw [r 1 (by decide)]; exact c4
/-- one guest is asked, and goes or comes, on both sides -/
theorem R_one {a b : mG} {n nc g : Nat} (H : HSr 1 a.1 (b.1 89)) (h3 : a.1 2 3 = cn n) (hn : n ≤ 12) (hg : g < n) (hc : a.1 8 3 = cn nc) (hL : LTy nc (b.1 89)) (hV : VIg (b.1 89) g) {K : Int32 → mG → Option ((Int32 × Int32 × mG) ⊕ (Int32 × mG))} {M : Int32 → mG → Option ((Int32 × Int32 × mG) ⊕ (Int32 × mG))} {Q : ((Int32 × Int32 × mG) ⊕ (Int32 × mG)) → ((Int32 × Int32 × mG) ⊕ (Int32 × mG)) → Prop} (hKM : ∀ τ υ, MQo g a b τ υ → rel (K τ.1 τ.2) (M υ.1 υ.2) Q) : rel (b1 (F_X6_ask (cn g) a) fun s4 => b1 (F_X2_isOut 1 s4 (cn g)) fun v6 => if v6 = 0 then b2 (F_X6_goes (cn g) s4) fun v10 s9 => K v10 s9 else b2 (F_X6_comes (cn g) s4) fun v20 s19 => K v20 s19) (b2 (F_X12_isMoved (cn g) b) fun v5 s4 => M v5 s4) Q := by
  refine rel_l1 (V_ask H h3 hn hg hc hL) (fun u q => ?_)
  obtain ⟨qT, qr⟩ := q
  have Hu : HSr 1 u.1 (b.1 89) := HSr_row H qr
  have u2 : u.1 2 = a.1 2 := qr 2 (by decide) (by decide) (by decide)
  have hu3 : u.1 2 3 = cn n := by rw [u2]; exact h3
  have hat : F_X10_at (1 + 1) u (cn g) (ci 2) = some (b.1 89 (3 + g)) := V_atG (c := 2) (k := ci 2) Hu.1 hu3 hn hg (by decide) rfl
  unfold F_X2_isOut
  rw [hat, b1_some]
  -- the reference tells what it needs
  have says : ∀ (x : Int32) (ch : Nat), ch < 2 → ∀ (y1 : Int32), y1 = cn (20 + ch) → ∀ {X : Option (Int32 × mG)} , (∀ b' : mG, (∀ j, j ≠ 96 → j ≠ 97 → b'.1 j = b.1 j) → rel X (b2 (F_X12_draw (c16 1000) b') fun v18 s17 => if v18 < LVn (b.1 89) g ch then b2 (F_X12_draw (c16 1000) s17) fun v22 s21 => if LVn (b.1 89) g 4 ≤ v22 then F_X12_isMoved_92 (cn g) x (LVn (b.1 89) g 2) (LVn (b.1 89) g 3) (ci 1) s21 else F_X12_isMoved_92 (cn g) x (LVn (b.1 89) g 2) (LVn (b.1 89) g 3) (ci 0) s21 else some (ci 0, s17)) (MQo g a b)) → rel X (F_X12_isMoved_30 (cn g) x y1 b) (MQo g a b) := by
    intro x ch hch y1 hy X h
    subst hy
    unfold F_X12_isMoved_30
    refine rel_r2 (V_saysNow hL (by omega : g < 12) (by omega : ch < 6)) (fun v1 b1' q1 => ?_)
    obtain ⟨p1, r1⟩ := q1
    have p1 : v1 = LVn (b.1 89) g ch := p1
    have r1 : ∀ j, j ≠ 96 → j ≠ 97 → b1'.1 j = b.1 j := r1
    have e1 := r1 89 (by decide) (by decide)
    rw [show c8 24 = cn (20 + 4) by decide, show c8 22 = cn (20 + 2) by decide, show c8 23 = cn (20 + 3) by decide]
    refine rel_r2 (V_saysNow (x := 4) (by rw [e1]; exact hL) (by omega : g < 12) (by omega)) (fun v2 b2' q2 => ?_)
    obtain ⟨p2, r2⟩ := q2
    rw [e1] at p2
    have p2 : v2 = LVn (b.1 89) g 4 := p2
    have r2 : ∀ j, j ≠ 96 → j ≠ 97 → b2'.1 j = b.1 j := fun j h1 h2 => (r2 j h1 h2).trans (r1 j h1 h2)
    have e2 := r2 89 (by decide) (by decide)
    refine rel_r2 (V_saysNow (x := 2) (by rw [e2]; exact hL) (by omega : g < 12) (by omega)) (fun v3 b3' q3 => ?_)
    obtain ⟨p3, r3⟩ := q3
    rw [e2] at p3
    have p3 : v3 = LVn (b.1 89) g 2 := p3
    have r3 : ∀ j, j ≠ 96 → j ≠ 97 → b3'.1 j = b.1 j := fun j h1 h2 => (r3 j h1 h2).trans (r2 j h1 h2)
    have e3 := r3 89 (by decide) (by decide)
    refine rel_r2 (V_saysNow (x := 3) (by rw [e3]; exact hL) (by omega : g < 12) (by omega)) (fun v4 b4' q4 => ?_)
    obtain ⟨p4, r4⟩ := q4
    rw [e3] at p4
    have p4 : v4 = LVn (b.1 89) g 3 := p4
    have r4 : ∀ j, j ≠ 96 → j ≠ 97 → b4'.1 j = b.1 j := fun j h1 h2 => (r4 j h1 h2).trans (r3 j h1 h2)
    rw [p1, p2, p3, p4]
    exact h b4' r4
  have lift : ∀ {b' : mG} {τ υ : Int32 × mG}, (∀ j, j ≠ 96 → j ≠ 97 → b'.1 j = b.1 j) → MQo g u b' τ υ → MQo g a b τ υ := by
    intro b' τ υ hb' q
    obtain ⟨q1, q2, q3, q4, q5, q6, q7, q8, q9⟩ := q
    have e := hb' 89 (by decide) (by decide)
    refine ⟨q1, q2, q3, CFh_tr (fun j _ _ _ _ h5 h6 h7 => qr j h5 h6 h7) q4, RFh_tr (RFh_2 (fun j _ h2 h3 => hb' j h2 h3) (fun k _ => by rw [e]) (by rw [e])) q5, by rw [q6, e], fun k h1 h2 h3 h4 => by rw [q7 k h1 h2 h3 h4, e], q8, q9⟩
  have mv : ∀ y : Int32, (b.1 89 (3 + g) = ci 1 → y = ci 1) → (¬ b.1 89 (3 + g) = ci 1 → y = ci 0) → F_X12_isMoved (cn g) b = if ((ci 3) + cn g) < 0 ∨ 1894 ≤ ((ci 3) + cn g).toNatClampNeg then none else F_X12_isMoved_17 (cn g) y b := by
    intro y h1 h2
    unfold F_X12_isMoved
    rw [show ci 3 + cn g = cn (3 + g) from cn_add (a := 3) (by omega), cn_nat (n := 3 + g) (by omega)]
    by_cases e : b.1 89 (3 + g) = ci 1
    · rw [if_pos e, h1 e]
    · rw [if_neg e, h2 e]
  rcases hV.1 with ho | ho
  · rw [if_neg (by rw [ho]; decide), b1_some, if_pos c0e0, mv (ci 0) (fun e => by rw [ho] at e; exact absurd e (by decide)) (fun _ => rfl)]
    have hk := hV.2.1 ho
    intro x hx y hy
    obtain ⟨v, s, hv, hx⟩ := m_b2 hx
    obtain ⟨v', s', hv', hy⟩ := m_b2 hy
    refine hKM (v, s) (v', s') (?_ : MQo g a b (v, s) (v', s')) x hx y hy
    have main : rel (F_X6_goes (cn g) u) (F_X12_isMoved_30 (cn g) (ci 0) (c8 20) b) (MQo g a b) := by
      refine says (ci 0) 0 (by decide) (c8 20) (by decide) (fun b' hb' => ?_)
      have e := hb' 89 (by decide) (by decide)
      exact rel_mono (R_goes (T := LVn (b.1 89) g) (by rw [e]; exact Hu) hu3 hn hg qT (by rw [e]; exact hk) (by rw [e]; exact ho)) (fun τ υ q => lift hb' q)
    have hv' := (m_gn hv').2
    unfold F_X12_isMoved_17 at hv'
    rw [if_pos c0e0] at hv'
    exact main (v, s) hv (v', s') hv'
  · rw [if_pos ho, b1_some, if_neg c1n0, mv (ci 1) (fun _ => rfl) (fun e => absurd ho e)]
    intro x hx y hy
    obtain ⟨v, s, hv, hx⟩ := m_b2 hx
    obtain ⟨v', s', hv', hy⟩ := m_b2 hy
    refine hKM (v, s) (v', s') (?_ : MQo g a b (v, s) (v', s')) x hx y hy
    have main : rel (F_X6_comes (cn g) u) (F_X12_isMoved_30 (cn g) (ci 1) (c8 21) b) (MQo g a b) := by
      refine says (ci 1) 1 (by decide) (c8 21) (by decide) (fun b' hb' => ?_)
      have e := hb' 89 (by decide) (by decide)
      exact rel_mono (R_comes (T := LVn (b.1 89) g) (by rw [e]; exact Hu) hu3 hn hg qT (by rw [e]; exact ho)) (fun τ υ q => lift hb' q)
    have hv' := (m_gn hv').2
    unfold F_X12_isMoved_17 at hv'
    rw [if_neg c1n0] at hv'
    exact main (v, s) hv (v', s') hv'
theorem V_lesser {s : mG} {c v : Int32} : F_X12_lesser s c v = some (imin v c) := by
  unfold F_X12_lesser imin
  by_cases h : c < v
  · rw [if_neg (fun q => absurd h (Int32.not_lt.mpr q)), if_pos h]
  · rw [if_pos (Int32.not_lt.mp h), if_neg h]
/-- what an hour leaves -/
def HQo (n : Nat) (a b u t : mG) : Prop := HSr 1 u.1 (t.1 89) ∧ CFh a u ∧ RFh b t ∧ ∀ i, i < n → VIg (t.1 89) i
theorem R_hour {a b : mG} {n nc : Nat} (H : HSr 1 a.1 (b.1 89)) (h3 : a.1 2 3 = cn n) (hn : n ≤ 12) (hc : a.1 8 3 = cn nc) (hL : LTy nc (b.1 89)) (hV : ∀ i, i < n → VIg (b.1 89) i) : rel (F_X6_passHour a) (F_X12_anHour b) (fun τ υ => τ.1 = υ.1 ∧ HQo n a b τ.2 υ.2 ∧ υ.2.1 89 0 = b.1 89 0 + ci 1) := by
  have h112 : b.1 89 112 = cn n := by
    obtain ⟨⟨_, _, m, hm, g3, gc, _⟩, _⟩ := H
    rw [gc]; exact g3.symm.trans h3
  unfold F_X6_passHour F_X12_anHour F_X6_passHour_L4 F_X12_anHour_L4
  refine rel_whl (fun v w => v.1 = w.1 ∧ ∃ g, g ≤ n ∧ v.2.1 = cn g ∧ w.2.1 = cn g ∧ HQo n a b v.2.2 w.2.2 ∧ w.2.2.1 89 0 = b.1 89 0) ⟨rfl, 0, Nat.zero_le _, rfl, rfl, ⟨H, CFh_rfl, RFh_rfl, hV⟩, rfl⟩ (fun v w hvw => ?_)
  obtain ⟨x1, x2, s⟩ := v
  obtain ⟨y1, y2, t⟩ := w
  obtain ⟨e1, g, hg, e2, e3, ⟨H1, c1, r1, V1⟩, e0⟩ := hvw
  have e1 : x1 = y1 := e1
  have e2 : x2 = cn g := e2
  have e3 : y2 = cn g := e3
  have H1 : HSr 1 s.1 (t.1 89) := H1
  have c1 : CFh a s := c1
  have r1 : RFh b t := r1
  have V1 : ∀ i, i < n → VIg (t.1 89) i := V1
  have e0 : t.1 89 0 = b.1 89 0 := e0
  subst e1; subst e2; subst e3
  have s2 : s.1 2 = a.1 2 := c1 2 (by decide) (by decide) (by decide) (by decide) (by decide) (by decide) (by decide)
  have hs3 : s.1 2 3 = cn n := by rw [s2]; exact h3
  have ht : t.1 89 112 = cn n := by rw [r1.2.1 112 (by omega)]; exact h112
  unfold F_X6_passHour_B4 F_X12_anHour_B4
  dsimp only
  rw [hs3, ht]
  by_cases hgn : n ≤ g
  · rw [if_pos ((cn_le (by omega) (by omega)).mpr hgn), if_pos ((cn_le (by omega) (by omega)).mpr hgn)]
    have x10 : s.1 1 10 = t.1 89 0 := H1.2.2.2.2.2.2.2.2.2.2.1
    have k0 : ∀ l, l ≠ 0 → mu t.1 89 0 (t.1 89 0 + ci 1) 89 l = t.1 89 l := fun l hl => mu_cell (Or.inr hl)
    refine rel_some (show _ ∧ _ from ⟨rfl, ⟨?_, fun j h1 h2 h3' h4 h5 h6 h7 => (mu_row h1).trans (c1 j h1 h2 h3' h4 h5 h6 h7), RFh_tr r1 (RFh_2 (fun j h1 _ _ => mu_row h1) (fun k hk => k0 k (by omega)) (k0 2 (by decide))), fun i hi => ?_⟩, ?_⟩)
    · rw [x10]
      exact HSr_num H1 (Or.inr (Or.inr (Or.inl ⟨rfl, rfl⟩)))
    · have q := V1 i hi
      unfold VIg at q ⊢
      have k : ∀ l, l ≠ 0 → mu t.1 89 0 (t.1 89 0 + ci 1) 89 l = t.1 89 l := fun l hl => mu_cell (Or.inr hl)
      dsimp only
      rw [k (3 + i) (by omega), k (15 + i) (by omega), k (27 + i) (by omega)]
      exact q
    · show mu t.1 89 0 (t.1 89 0 + ci 1) 89 0 = _
      rw [mu_same, e0]
  · rw [if_neg (fun q => hgn ((cn_le (by omega) (by omega)).mp q)), if_neg (fun q => hgn ((cn_le (by omega) (by omega)).mp q))]
    have s8 : s.1 8 = a.1 8 := c1 8 (by decide) (by decide) (by decide) (by decide) (by decide) (by decide) (by decide)
    have hLt : LTy nc (t.1 89) := LTy_same hL (fun k hk => r1.2.1 k (by omega))
    refine R_one (n := n) (nc := nc) H1 hs3 hn (by omega) (by rw [s8]; exact hc) hLt (V1 g (by omega)) (K := fun v10 s9 => F_X6_passHour_47 x1 (cn g) v10 s9) (M := fun v5 s4 => if v5 = 0 then (if ((c8 27) + cn g) < 0 ∨ 1894 ≤ ((c8 27) + cn g).toNatClampNeg then none else b1 (F_X12_lesser s4 (c16 999) ((s4.1 89 ((c8 27) + cn g).toNatClampNeg) + (ci 1))) fun v9 => F_X12_anHour_54 x1 (cn g) v5 ((c8 27) + cn g) v9 s4) else F_X12_anHour_54 x1 (cn g) v5 ((c8 27) + cn g) (ci 0) s4) (fun τ υ q => ?_)
    obtain ⟨v, u⟩ := τ
    obtain ⟨v', z⟩ := υ
    obtain ⟨q1, q2, q3, q4, q5, q6, q7, q8, q9⟩ := q
    have q1 : v = v' := q1
    have q2 : PB v := q2
    have q3 : HSr 1 u.1 (z.1 89) := q3
    have q4 : CFh s u := q4
    have q5 : RFh t z := q5
    have q6 : z.1 89 0 = t.1 89 0 := q6
    have q7 : ∀ k, 3 ≤ k → k < 111 → k ≠ 3 + g → k ≠ 15 + g → z.1 89 k = t.1 89 k := q7
    have q8 : PBz (z.1 89 (3 + g)) := q8
    have q9 : z.1 89 (3 + g) = ci 0 → z.1 89 (15 + g) = ci (-1) := q9
    subst q1
    have u2 : u.1 2 = s.1 2 := q4 2 (by decide) (by decide) (by decide) (by decide) (by decide) (by decide) (by decide)
    have hu3 : u.1 2 3 = cn n := by rw [u2]; exact hs3
    have hu1 : u.1 2 1 = cn 11 := q3.1.2.1
    have hat : F_X10_at 2 u (cn g) (ci 4) = some (z.1 89 (27 + g)) := V_atG (c := 4) (k := ci 4) q3.1 hu3 hn (by omega) (by decide) rfl
    have e27 : z.1 89 (27 + g) = t.1 89 (27 + g) := q7 _ (by omega) (by omega) (by omega) (by omega)
    have Vg := V1 g (by omega)
    dsimp only
    rw [show c8 27 + cn g = cn (27 + g) from cn_add (a := 27) (by omega), cn_nat (n := 27 + g) (by omega)]
    -- the end of both
    have fin : ∀ (x y : Int32) (yy : Int32), 0 ≤ x.toInt → x.toInt ≤ 999 → rel (F_X6_passHour_101 (x1 + yy) (cn g) (cn g) (ci 4) x u) (F_X12_anHour_65 (cn g) x1 yy (mu z.1 89 (27 + g) x, z.2)) (se2 (fun v w => v.1 = w.1 ∧ ∃ g, g ≤ n ∧ v.2.1 = cn g ∧ w.2.1 = cn g ∧ HQo n a b v.2.2 w.2.2 ∧ w.2.2.1 89 0 = b.1 89 0) (fun τ υ => τ.1 = υ.1 ∧ HQo n a b τ.2 υ.2 ∧ υ.2.1 89 0 = b.1 89 0 + ci 1)) := by
      intro x y yy hx0 hx1
      unfold F_X6_passHour_101 F_X12_anHour_65
      rw [V_putG (n := n) (c := 4) (k := ci 4) hu1 hu3 hn (by omega) (by decide) rfl, b1_some]
      have zk : ∀ l, l ≠ 27 + g → mu z.1 89 (27 + g) x 89 l = z.1 89 l := fun l hl => mu_cell (Or.inr hl)
      refine rel_some (show _ ∧ _ from ⟨rfl, g + 1, by omega, cnu (by omega), cnu (by omega), ⟨HSr_put q3 hu3 (by omega) hn (by decide) rfl, fun j h1 h2 h3' h4 h5 h6 h7 => (mu_row h2).trans ((q4 j h1 h2 h3' h4 h5 h6 h7).trans (c1 j h1 h2 h3' h4 h5 h6 h7)), RFh_tr (RFh_tr r1 q5) (RFh_2 (fun j h1 _ _ => mu_row h1) (fun k hk => zk k (by omega)) (zk 2 (by omega))), fun i hi => ?_⟩, ?_⟩)
      · show VIg (mu z.1 89 (27 + g) x 89) i
        unfold VIg
        rw [zk (3 + i) (by omega), zk (15 + i) (by omega)]
        by_cases e : i = g
        · subst e
          rw [mu_same]
          exact ⟨q8, q9, hx0, hx1⟩
        · rw [zk (27 + i) (by omega), q7 (3 + i) (by omega) (by omega) (by omega) (by omega), q7 (15 + i) (by omega) (by omega) (by omega) (by omega), q7 (27 + i) (by omega) (by omega) (by omega) (by omega)]
          exact V1 i hi
      · show mu z.1 89 (27 + g) x 89 0 = _
        rw [zk 0 (by omega), q6, e0]
    unfold F_X6_passHour_47 F_X6_passHour_58 F_X12_anHour_54
    rw [hat, b1_some, b1_some, cn_nat (n := 27 + g) (by omega)]
    dsimp only
    by_cases hv : v = 0
    · rw [if_pos hv, if_pos hv, if_pos hv]
      rw [V_lesser, b1_some]
      refine rel_rg (rel_rg ?_)
      rw [if_pos hv]
      refine fin _ (ci 0) (ci 0) ?_ ?_
      · have g1 : 0 ≤ (t.1 89 (27 + g)).toInt := Vg.2.2.1
        have g2 : (t.1 89 (27 + g)).toInt ≤ 999 := Vg.2.2.2
        have eu : (z.1 89 (27 + g) + ci 1).toInt = (t.1 89 (27 + g)).toInt + 1 := by rw [e27]; exact t_up (by omega)
        unfold imin
        by_cases hlt : c16 999 < z.1 89 (27 + g) + ci 1
        · rw [if_pos hlt]; decide
        · rw [if_neg hlt, eu]; omega
      · unfold imin
        by_cases hlt : c16 999 < z.1 89 (27 + g) + ci 1
        · rw [if_pos hlt]; decide
        · rw [if_neg hlt]
          have := r_nlt (by decide : (c16 999).toInt = 999) rfl hlt
          omega
    · rw [if_neg hv, if_neg hv, if_neg hv]
      refine rel_rg ?_
      rw [if_neg hv]
      exact fin _ (ci 0) (ci 1) (by decide) (by decide)
end
end
/-! 5zb0a.sim -/
section
noncomputable section
/-! BOTH SIDES HOLD THE SAME HOUSE, PAST AND IMAGE -/
def IMGr (a b : mG) : Prop := PB (b.1 88 4) ∧ a.1 0 2 = b.1 88 4 ∧ (TS 19 11 12 a ∧ TS 21 5 150 a ∧ TS 31 4 8 a ∧ TS 33 3 8 a) ∧ (b.1 88 4 ≠ 0 → HSr 18 a.1 (b.1 90) ∧ ∃ n nc, n ≤ 12 ∧ a.1 19 3 = cn n ∧ a.1 25 3 = cn nc ∧ LTy nc (b.1 90) ∧ VIm n (b.1 90))
def SIM (a b : mG) : Prop := (∃ n nb nc, n ≤ 12 ∧ nb ≤ 150 ∧ a.1 2 3 = cn n ∧ a.1 4 3 = cn nb ∧ a.1 8 3 = cn nc ∧ HSr 1 a.1 (b.1 89) ∧ LTy nc (b.1 89) ∧ VIm n (b.1 89)) ∧ PSr a.1 (b.1 88) (b.1 91) ∧ IMGr a b
theorem HSr18_row {D E : Nat → Nat → Int32} {w : Nat → Int32} (H : HSr 18 D w) (r : ∀ j, 18 ≤ j → j ≤ 34 → E j = D j) : HSr 18 E w := by
  obtain ⟨t1, t2, t3, t4, t5, t6, t7, t8, c1, c2, c3, c4⟩ := H
  refine ⟨TWr_same t1 (r _ (by decide) (by decide)) (r _ (by decide) (by decide)) rfl (fun _ _ _ _ => rfl), TWr_same t2 (r _ (by decide) (by decide)) (r _ (by decide) (by decide)) rfl (fun _ _ _ _ => rfl), LWr_same t3 (r _ (by decide) (by decide)) (r _ (by decide) (by decide)) (fun _ _ => rfl), CWr_same t4 (r _ (by decide) (by decide)) (r _ (by decide) (by decide)) (fun _ _ _ => rfl), TWr_same t5 (r _ (by decide) (by decide)) (r _ (by decide) (by decide)) rfl (fun _ _ _ _ => rfl), TWr_same t6 (r _ (by decide) (by decide)) (r _ (by decide) (by decide)) rfl (fun _ _ _ _ => rfl), TWr_same t7 (r _ (by decide) (by decide)) (r _ (by decide) (by decide)) rfl (fun _ _ _ _ => rfl), TWr_same t8 (r _ (by decide) (by decide)) (r _ (by decide) (by decide)) rfl (fun _ _ _ _ => rfl), ?_, ?_, ?_, ?_⟩
  · rw [r 18 (by decide) (by decide)]; exact c1
  · rw [r 18 (by decide) (by decide)]; exact c2
  · rw [r 18 (by decide) (by decide)]; exact c3
  · rw [r 18 (by decide) (by decide)]; exact c4
end
end
/-! 5zb0b.sim -/
section
noncomputable section
theorem IMG_same {a b u t : mG} (h : IMGr a b) (e0 : u.1 0 2 = a.1 0 2) (r : ∀ j, 18 ≤ j → j ≤ 34 → u.1 j = a.1 j) (e4 : t.1 88 4 = b.1 88 4) (e90 : t.1 90 = b.1 90) : IMGr u t := by
  obtain ⟨h1, h2, ⟨k1, k2, k3, k4⟩, h3⟩ := h
  unfold IMGr
  rw [e0, e4, e90]
  refine ⟨h1, h2, ⟨TS_row k1 (r _ (by decide) (by decide)), TS_row k2 (r _ (by decide) (by decide)), TS_row k3 (r _ (by decide) (by decide)), TS_row k4 (r _ (by decide) (by decide))⟩, fun hne => ?_⟩
  obtain ⟨q1, n, nc, q2, q3, q4, q5, q6⟩ := h3 hne
  exact ⟨HSr18_row q1 r, n, nc, q2, by rw [r 19 (by decide) (by decide)]; exact q3, by rw [r 25 (by decide) (by decide)]; exact q4, q5, q6⟩
end
end
/-! 5zb0c.sim -/
section
noncomputable section
/-- both keep a moment -/
theorem R_keep {a b : mG} (h : SIM a b) : rel (F_X5_keep 1 a) (F_X12_keeps b) (fun u t => SIM u t ∧ (∀ j, j < 35 → u.1 j = a.1 j) ∧ (∀ j, 55 ≤ j → u.1 j = a.1 j) ∧ ∀ j, j ≠ 88 → j ≠ 91 → t.1 j = b.1 j) := by
  obtain ⟨⟨n, nb, nc, hn, hnb, e2, e4, e8, H, L, V⟩, P, I⟩ := h
  obtain ⟨c, t, n1, nb1, bk, hc, ht, hn1, hnb1, p1, p2, p3, p4, p5, hbk, hbk2, hm, hP⟩ := P
  have en : n1 = n := (cn_inj (by omega) (by omega)).mp (p4.symm.trans e2)
  subst en
  have enb : nb1 = nb := (cn_inj (by omega) (by omega)).mp (p5.symm.trans e4)
  subst enb
  intro u hu w hw
  have k := V_keep ht hc p1 p2 (hm t ht) p4 hn u hu
  obtain ⟨r1, r2, r3, r4⟩ := E_keeps hc p3 w hw
  have r89 : w.1 89 = b.1 89 := r1 89 (by decide) (by decide)
  have P2 := PSr_keep (w88 := b.1 88) (w88' := w.1 88) (w91' := w.1 91) H hc ht hn p1 p2 p4 hnb p5 hbk hbk2 hm hP V k r3 r4
  have lo : ∀ j, j < 35 → u.1 j = a.1 j := fun j hj => k.2.1 j (by omega) (by omega)
  have hi : ∀ j, 55 ≤ j → u.1 j = a.1 j := fun j hj => k.2.1 j (by omega) (by omega)
  refine ⟨⟨⟨n1, nb1, nc, hn, hnb, by rw [lo 2 (by decide)]; exact e2, by rw [lo 4 (by decide)]; exact e4, by rw [lo 8 (by decide)]; exact e8, ?_, by rw [r89]; exact L, by rw [r89]; exact V⟩, P2, IMG_same I (by rw [lo 0 (by decide)]) (fun j _ h2 => lo j (by omega)) (r2 4 (by decide)) (r1 90 (by decide) (by decide))⟩, lo, hi, r1⟩
  rw [r89]
  obtain ⟨t1, t2, t3, t4, t5, t6, t7, t8, c1, c2, c3, c4⟩ := H
  refine ⟨TWr_same t1 (lo _ (by decide)) (lo _ (by decide)) rfl (fun _ _ _ _ => rfl), TWr_same t2 (lo _ (by decide)) (lo _ (by decide)) rfl (fun _ _ _ _ => rfl), LWr_same t3 (lo _ (by decide)) (lo _ (by decide)) (fun _ _ => rfl), CWr_same t4 (lo _ (by decide)) (lo _ (by decide)) (fun _ _ _ => rfl), TWr_same t5 (lo _ (by decide)) (lo _ (by decide)) rfl (fun _ _ _ _ => rfl), TWr_same t6 (lo _ (by decide)) (lo _ (by decide)) rfl (fun _ _ _ _ => rfl), TWr_same t7 (lo _ (by decide)) (lo _ (by decide)) rfl (fun _ _ _ _ => rfl), TWr_same t8 (lo _ (by decide)) (lo _ (by decide)) rfl (fun _ _ _ _ => rfl), ?_, ?_, ?_, ?_⟩
  · rw [lo 1 (by decide)]; exact c1
  · rw [lo 1 (by decide)]; exact c2
  · rw [lo 1 (by decide)]; exact c3
  · rw [lo 1 (by decide)]; exact c4
end
end
/-! 5zb1.sim -/
section
noncomputable section
/-- guests, the book and the hour change, and what is thought -/
theorem SIM_go {a b u t : mG} (h : SIM a b) (H : HSr 1 u.1 (t.1 89)) (c : CFh a u) (r : RFh b t) (v : ∀ n, n ≤ 12 → a.1 2 3 = cn n → VIm n (t.1 89)) : SIM u t := by
  obtain ⟨⟨n, nb, nc, hn, hnb, e2, e4, e8, H0, L, V⟩, P, I⟩ := h
  have r2 : u.1 2 = a.1 2 := c 2 (by decide) (by decide) (by decide) (by decide) (by decide) (by decide) (by decide)
  have r8 : u.1 8 = a.1 8 := c 8 (by decide) (by decide) (by decide) (by decide) (by decide) (by decide) (by decide)
  have big : ∀ j, 18 ≤ j → j ≤ 54 → u.1 j = a.1 j := fun j h1 h2 => c j (by omega) (by omega) (by omega) (by omega) (by omega) (by omega) (by omega)
  obtain ⟨_, ⟨_, _, nb', hnb', b3', bc', _⟩, _⟩ := id H
  obtain ⟨_, ⟨_, _, nb0, hnb0, b3, bc, _⟩, _⟩ := id H0
  have enb : nb0 = nb := (cn_inj (by omega) (by omega)).mp (b3.symm.trans e4)
  subst enb
  have grow : nb0 ≤ nb' := by
    have q := r.2.2
    rw [bc, bc', t_cn (by omega), t_cn (by omega)] at q
    omega
  refine ⟨⟨n, nb', nc, hn, hnb', by rw [r2]; exact e2, b3', by rw [r8]; exact e8, H, LTy_same L (fun k hk => r.2.1 k (by omega)), v n hn e2⟩, ?_, IMG_same I (by rw [c 0 (by decide) (by decide) (by decide) (by decide) (by decide) (by decide) (by decide)]) (fun j h1 h2 => big j h1 (by omega)) (congrFun (r.1 88 (by decide) (by decide) (by decide)) 4) (r.1 90 (by decide) (by decide) (by decide))⟩
  refine PSr_go P (big 35 (by decide) (by decide)) (congrFun (r.1 88 (by decide) (by decide) (by decide)) 3) (r.1 91 (by decide) (by decide) (by decide)) r2 e2 hn e4 grow hnb' b3' (fun j h1 h2 => big j (by omega) h2) (fun r' c' hr hc' => ?_)
  have q1 := H.1
  have q0 := H0.1
  obtain ⟨_, _, m, hm, g3, _, gx⟩ := q1
  obtain ⟨_, _, m0, hm0, g03, _, gx0⟩ := q0
  have em : m = n := (cn_inj (by omega) (by omega)).mp (g3.symm.trans (by rw [show (1 + 1 : Nat) = 2 from rfl, r2]; exact e2))
  have em0 : m0 = n := (cn_inj (by omega) (by omega)).mp (g03.symm.trans e2)
  subst em
  rw [show u.1 3 (r' * 11 + c') = t.1 89 (ixG r' c') from gx r' c' hr (by omega), show a.1 3 (r' * 11 + c') = b.1 89 (ixG r' c') from gx0 r' c' (by omega) (by omega)]
  refine r.2.1 _ ?_
  rcases ixG_cases (r := r') (show c' < 11 by omega) with q | q | q | q | q | q <;> omega
end
end
/-! 5zb2.sim -/
section
noncomputable section
theorem R_hours {a b : mG} {x : Int32} (h : SIM a b) : rel (F_X11_hours x a) (F_X12_hours x b) (fun τ υ => τ.1 = υ.1 ∧ SIM τ.2 υ.2) := by
  have x10 : a.1 1 10 = b.1 89 0 := by
    obtain ⟨⟨_, _, _, _, _, _, _, _, H, _, _⟩, _⟩ := h
    exact H.2.2.2.2.2.2.2.2.2.2.1
  have h0 : 0 ≤ (b.1 89 0).toInt ∧ (b.1 89 0).toInt ≤ 9999 := by
    obtain ⟨⟨_, _, _, _, _, _, _, _, _, _, V⟩, _⟩ := h
    exact ⟨V.1, V.2.1⟩
  unfold F_X11_hours F_X12_hours F_X11_hours_25 F_X12_hours_24
  rw [V_within, F_isIn, b1_some, b1_some, x10]
  by_cases hw : wi x (ci 1) (c8 60) = 0
  · rw [if_pos hw, if_pos hw]; exact rel_some ⟨rfl, h⟩
  rw [if_neg hw, if_neg hw]
  by_cases hl : b.1 89 0 + x ≤ c16 9999
  · rw [if_pos hl, if_pos hl]
    obtain ⟨w1, w2⟩ := wi_f hw
    rw [show (ci 1).toInt = 1 by decide] at w1
    rw [show (c8 60).toInt = 60 by decide] at w2
    have hsum := r_le (r_add rfl rfl (by omega) (by omega)) (by decide : (c16 9999).toInt = 9999) hl
    unfold F_X11_hours_L31 F_X12_hours_L30
    refine rel_whl (fun v w => v.1 = x ∧ w.1 = x ∧ v.2.1 = w.2.1 ∧ ∃ i : Nat, (i : Int) ≤ x.toInt ∧ v.2.2.1 = cn i ∧ w.2.2.1 = cn i ∧ SIM v.2.2.2 w.2.2.2 ∧ (w.2.2.2.1 89 0).toInt = (b.1 89 0).toInt + i) ⟨rfl, rfl, rfl, 0, by omega, rfl, rfl, h, by simp⟩ (fun v w hvw => ?_)
    obtain ⟨x1, x2, x3, s⟩ := v
    obtain ⟨y1, y2, y3, t⟩ := w
    obtain ⟨e1, e2, e3, i, hi, e4, e5, S, e0⟩ := hvw
    have e1 : x = x1 := e1.symm
    have e2 : x = y1 := e2.symm
    have e3 : x2 = y2 := e3
    have e4 : x3 = cn i := e4
    have e5 : y3 = cn i := e5
    have S : SIM s t := S
    have e0 : (t.1 89 0).toInt = (b.1 89 0).toInt + i := e0
    subst e1; subst e2; subst e3; subst e4; subst e5
    unfold F_X11_hours_B31 F_X12_hours_B30
    dsimp only
    have ti : (cn i).toInt = (i : Int) := t_cn (by omega)
    by_cases hle : x ≤ cn i
    · rw [if_pos hle, if_pos hle]
      exact rel_some ⟨rfl, S⟩
    · rw [if_neg hle, if_neg hle]
      have hlt := r_nle rfl ti hle
      refine rel_b1 (R_keep S) (fun u w q => ?_)
      obtain ⟨Sk, lo, hi', rj⟩ := q
      have r89 : w.1 89 = t.1 89 := rj 89 (by decide) (by decide)
      obtain ⟨⟨n, nb, nc, hn, hnb, f2, f4, f8, H, L, V⟩, _⟩ := id Sk
      refine rel_b2 (R_hour H f2 hn f8 L V.2.2) (fun m s' m' t' q => ?_)
      obtain ⟨q1, ⟨q2, q3, q4, q5⟩, q6⟩ := q
      have q1 : m = m' := q1
      have q2 : HSr 1 s'.1 (t'.1 89) := q2
      have q3 : CFh u s' := q3
      have q4 : RFh w t' := q4
      have q5 : ∀ i, i < n → VIg (t'.1 89) i := q5
      have q6 : t'.1 89 0 = w.1 89 0 + ci 1 := q6
      subst q1
      have eh : (t'.1 89 0).toInt = (b.1 89 0).toInt + (i + 1 : Nat) := by
        rw [q6, r89, t_up (by omega), e0]; omega
      refine rel_some (show _ ∧ _ from ⟨rfl, rfl, rfl, i + 1, by omega, cnu (by omega), cnu (by omega), SIM_go Sk q2 q3 q4 (fun n' hn' e' => ?_), eh⟩)
      have en : n' = n := (cn_inj (by omega) (by omega)).mp (e'.symm.trans f2)
      subst en
      exact (show 0 ≤ (t'.1 89 0).toInt ∧ (t'.1 89 0).toInt ≤ 9999 ∧ ∀ g, g < n' → VIg (t'.1 89) g from ⟨by omega, by omega, q5⟩)
  · rw [if_neg hl, if_neg hl]; exact rel_some ⟨rfl, h⟩
end
end
/-! 5zb3.sim -/
section
noncomputable section
/-! who is a guest, here and there -/
theorem ig_cn {x : Int32} {n : Nat} (hn : n < 2147483648) (h : ¬ ig x (cn n) = 0) : ∃ g, g < n ∧ x = cn g := by
  unfold ig at h
  by_cases h1 : x < 0
  · rw [if_pos h1] at h; exact absurd c0e0 h
  rw [if_neg h1] at h
  by_cases h2 : cn n ≤ x
  · rw [if_pos h2] at h; exact absurd c0e0 h
  have q0 := t_nn h1
  have q1 := r_nle (t_cn hn) (rfl : x.toInt = _) h2
  exact ⟨x.toInt.toNat, by omega, cnof q0⟩
theorem V_isGuestR {b : mG} {x : Int32} {n : Nat} (h : b.1 89 112 = cn n) (hn : n ≤ 12) : F_X12_isGuest b x = some (ig x (cn n)) := by
  unfold F_X12_isGuest
  rw [F_isIn, b1_some, h, wi_ig (by rw [t_cn (by omega)]; omega)]
  exact if_pos ig_pb
theorem V_isSignR {b : mG} {x : Int32} {n : Nat} (h : b.1 89 115 = cn n) (hn : n ≤ 12) : F_X12_isSign b x = some (ig x (cn n)) := by
  unfold F_X12_isSign
  rw [F_isIn, b1_some, h, wi_ig (by rw [t_cn (by omega)]; omega)]
  exact if_pos ig_pb
theorem V_isSignC {a : mG} {x : Int32} : F_X2_isSign 1 a x = some (ig x (a.1 10 3)) := by
  unfold F_X2_isSign
  rw [V_hasRow, b1_some]
  exact if_pos ig_pb
/-- the counts on both sides -/
theorem SIM_n {a b : mG} {n : Nat} (H : HSr 1 a.1 (b.1 89)) (e : a.1 2 3 = cn n) : b.1 89 112 = cn n := by
  obtain ⟨⟨_, _, m, hm, g3, gc, _⟩, _⟩ := H
  rw [gc]; exact g3.symm.trans e
theorem CFh_lo {a u v : mG} (lo : ∀ j, j < 35 → u.1 j = a.1 j) (h : CFh u v) : ∀ j, j ≠ 1 → j ≠ 3 → j ≠ 4 → j ≠ 5 → j < 35 → v.1 j = a.1 j := fun j h1 h2 h3 h4 h5 => (h j h1 h2 h3 h4 (by omega) (by omega) (by omega)).trans (lo j h5)
theorem VIg_put {E : Nat → Nat → Int32} {g i k : Nat} {v : Int32} (h : VIg (E 89) i) (hk : k ≠ 3 + i ∧ k ≠ 15 + i ∧ k ≠ 27 + i) : VIg (mu E 89 k v 89) i := by
  unfold VIg
  rw [mu_cell (Or.inr (Ne.symm hk.1)), mu_cell (Or.inr (Ne.symm hk.2.1)), mu_cell (Or.inr (Ne.symm hk.2.2))]
  exact h
end
end
/-! 5zb4.sim -/
section
noncomputable section
theorem R_hang {a b : mG} {x y : Int32} (h : SIM a b) : rel (F_X11_hang x y a) (F_X12_hang x y b) (fun τ υ => τ.1 = υ.1 ∧ SIM τ.2 υ.2) := by
  obtain ⟨⟨n, nb, nc, hn, hnb, e2, e4, e8, H, L, V⟩, _⟩ := id h
  have h112 := SIM_n H e2
  unfold F_X11_hang F_X12_hang F_X11_hang_44 F_X12_hang_36
  rw [V_isGuest, V_isGuestR h112 hn, b1_some, b1_some, show a.1 (1 + 1) 3 = cn n from e2]
  by_cases hx : ig x (cn n) = 0
  · rw [if_pos hx, if_pos hx]; exact rel_some ⟨rfl, h⟩
  rw [if_neg hx, if_neg hx, V_isGuest, V_isGuestR h112 hn, b1_some, b1_some, show a.1 (1 + 1) 3 = cn n from e2]
  by_cases hy : ig y (cn n) = 0
  · rw [if_pos hy, if_pos hy]; exact rel_some ⟨rfl, h⟩
  rw [if_neg hy, if_neg hy]
  obtain ⟨g, hg, ex⟩ := ig_cn (by omega) hx
  subst ex
  unfold F_X2_isOut
  rw [show (1 + 1 : Nat) = 2 from rfl, V_atG (c := 2) (k := ci 2) H.1 e2 hn hg (by decide) rfl, b1_some, show ixG g 2 = 3 + g from rfl, show ci 3 + cn g = cn (3 + g) from cn_add (a := 3) (by omega), cn_nat (n := 3 + g) (by omega)]
  refine rel_rg ?_
  rcases (V.2.2 g hg).1 with ho | ho
  · rw [ho, if_neg (by decide), b1_some, if_pos c0e0, if_pos c0e0]; exact rel_some ⟨rfl, h⟩
  rw [ho, if_pos rfl, b1_some, if_neg c1n0, if_neg c1n0, V_hasKey, b1_b1]
  refine rel_b1 (R_keyOn H e2 hn) (fun u v e => ?_)
  subst e
  by_cases hk : u = ci (-1)
  · rw [if_pos hk, if_pos hk, b1_some, if_pos c0e0]
    refine rel_b1 (R_keep h) (fun s t q => ?_)
    obtain ⟨Sk, lo, hi', rj⟩ := q
    have r89 : t.1 89 = b.1 89 := rj 89 (by decide) (by decide)
    obtain ⟨⟨n', nb', nc', hn', hnb', f2, f4, f8, H', L', V'⟩, _⟩ := id Sk
    have en : n' = n := (cn_inj (by omega) (by omega)).mp (f2.symm.trans (by rw [lo 2 (by decide)]; exact e2))
    subst en
    rw [V_putG (c := 3) (k := ci 3) H'.1.2.1 f2 hn hg (by decide) rfl, b1_some, show c8 15 + cn g = cn (15 + g) from cn_add (a := 15) (by omega), cn_nat (n := 15 + g) (by omega)]
    refine rel_rg ?_
    dsimp only
    refine rel_b1 (R_write (a := (mu s.1 3 (g * 11 + 3) y, s.2)) (b := (mu t.1 89 (15 + g) y, t.2)) (HSr_put H' f2 hg hn (by decide) rfl)) (fun s' t' q => ?_)
    obtain ⟨q1, q2, q3, q4, q5⟩ := q
    have c89 : ∀ k, k ≠ 2 → (k < 235 ∨ 985 ≤ k) → k ≠ 15 + g → t'.1 89 k = t.1 89 k := fun k h1 h2 h3 => (q4 k h1 h2).trans (mu_cellQ (Or.inr h3))
    refine rel_some ⟨rfl, SIM_go Sk q1 (fun j h1 h2 h3 h4 _ _ _ => (q2 j h3 h4).trans (mu_row h2)) ⟨fun j h1 _ _ => (q3 j h1).trans (mu_row h1), fun k hk => c89 k (by omega) (by omega) (by omega), ?_⟩ (fun m hm em => ?_)⟩
    · have q5 : (mu t.1 89 (15 + g) y 89 2).toInt ≤ (t'.1 89 2).toInt := q5
      rw [mu_cell (Or.inr (by omega))] at q5
      exact q5
    · have en : m = n' := (cn_inj (by omega) (by omega)).mp (em.symm.trans f2)
      subst en
      refine ⟨by rw [c89 0 (by omega) (by omega) (by omega)]; exact V'.1, by rw [c89 0 (by omega) (by omega) (by omega)]; exact V'.2.1, fun i hi => ?_⟩
      have Vi := V'.2.2 i hi
      unfold VIg at Vi ⊢
      rw [c89 (3 + i) (by omega) (by omega) (by omega), c89 (27 + i) (by omega) (by omega) (by omega)]
      by_cases eig : i = g
      · subst eig
        rw [r89, ho]
        refine ⟨Or.inr rfl, fun e => absurd e (by decide), ?_, ?_⟩
        · rw [r89] at Vi; exact Vi.2.2.1
        · rw [r89] at Vi; exact Vi.2.2.2
      · rw [c89 (15 + i) (by omega) (by omega) (by omega)]
        exact Vi
  · rw [if_neg hk, if_neg hk, b1_some, if_neg c1n0]; exact rel_some ⟨rfl, h⟩
end
end
/-! 5zb5.sim -/
section
noncomputable section
theorem R_looks {a b : mG} {x y z : Int32} (h : SIM a b) : rel (F_X11_looks x y z a) (F_X12_looks x y z b) (fun τ υ => τ.1 = υ.1 ∧ SIM τ.2 υ.2) := by
  obtain ⟨⟨n, nb, nc, hn, hnb, e2, e4, e8, H, L, V⟩, _⟩ := id h
  have h112 := SIM_n H e2
  obtain ⟨_, _, m, hm, g3, gc, _⟩ := H.2.2.2.2.1
  have gc : b.1 89 115 = cn m := gc
  have g3 : a.1 10 3 = cn m := g3
  unfold F_X11_looks F_X12_looks F_X11_looks_31 F_X12_looks_43
  rw [V_isGuest, V_isGuestR h112 hn, b1_some, b1_some, show a.1 (1 + 1) 3 = cn n from e2]
  by_cases hx : ig x (cn n) = 0
  · rw [if_pos hx, if_pos hx]; exact rel_some ⟨rfl, h⟩
  rw [if_neg hx, if_neg hx, V_isSignC, V_isSignR gc (by omega), b1_some, b1_some, g3]
  by_cases hy : ig y (cn m) = 0
  · rw [if_pos hy, if_pos hy]; exact rel_some ⟨rfl, h⟩
  rw [if_neg hy, if_neg hy, V_within, F_isIn, b1_some, b1_some]
  by_cases hz : wi z (ci (-1)) (ci 1) = 0
  · rw [if_pos hz, if_pos hz]; exact rel_some ⟨rfl, h⟩
  rw [if_neg hz, if_neg hz]
  obtain ⟨g, hg, ex⟩ := ig_cn (by omega) hx
  subst ex
  obtain ⟨s, hs, ey⟩ := ig_cn (by omega) hy
  subst ey
  have e5 : ci 5 + cn s = cn (5 + s) := cn_add (a := 5) (by omega)
  have ei : c8 39 + (c8 6) * cn g + cn s = cn (39 + 6 * g + s) := by
    rw [show (c8 6) * cn g = cn (6 * g) from cn_mul (a := 6) (by omega) (by omega) (by omega), show c8 39 + cn (6 * g) = cn (39 + 6 * g) from cn_add (a := 39) (by omega), cn_add (by omega)]
  have eix : ixG g (5 + s) = 39 + 6 * g + s := by
    unfold ixG
    rw [if_neg (by omega), if_neg (by omega), if_neg (by omega), if_neg (by omega), if_neg (by omega)]
    omega
  rw [e5, V_atG (c := 5 + s) H.1 e2 hn hg (by omega) rfl, b1_some, ei, cn_nat (n := 39 + 6 * g + s) (by omega), eix]
  refine rel_rg ?_
  by_cases he : b.1 89 (39 + 6 * g + s) = z
  · rw [if_pos he, if_pos he]; exact rel_some ⟨rfl, h⟩
  rw [if_neg he, if_neg he]
  refine rel_b1 (R_keep h) (fun u t q => ?_)
  obtain ⟨Sk, lo, hi', rj⟩ := q
  obtain ⟨⟨n', nb', nc', hn', hnb', f2, f4, f8, H', L', V'⟩, _⟩ := id Sk
  have en : n' = n := (cn_inj (by omega) (by omega)).mp (f2.symm.trans (by rw [lo 2 (by decide)]; exact e2))
  subst en
  rw [V_putG (c := 5 + s) H'.1.2.1 f2 hn hg (by omega) rfl, b1_some]
  refine rel_rg ?_
  dsimp only
  have cc : ∀ k, k ≠ 39 + 6 * g + s → mu t.1 89 (39 + 6 * g + s) z 89 k = t.1 89 k := fun k hk => mu_cell (Or.inr hk)
  refine rel_some ⟨rfl, SIM_go Sk (HSr_put H' f2 hg hn (by omega) eix.symm) (fun j h1 h2 _ _ _ _ _ => mu_row h2) (RFh_2 (fun j h1 _ _ => mu_row h1) (fun k hk => cc k (by omega)) (cc 2 (by omega))) (fun m' hm' em => ?_)⟩
  have en : m' = n' := (cn_inj (by omega) (by omega)).mp (em.symm.trans f2)
  subst en
  have c0 : mu t.1 89 (39 + 6 * g + s) z 89 0 = t.1 89 0 := cc 0 (by omega)
  refine (show 0 ≤ (mu t.1 89 (39 + 6 * g + s) z 89 0).toInt ∧ (mu t.1 89 (39 + 6 * g + s) z 89 0).toInt ≤ 9999 ∧ ∀ i, i < m' → VIg (mu t.1 89 (39 + 6 * g + s) z 89) i from ⟨?_, ?_, fun i hi => VIg_put (g := g) (V'.2.2 i hi) (by omega)⟩)
  · rw [c0]; exact V'.1
  · rw [c0]; exact V'.2.1
end
end
/-! 5zc.writers -/
section
noncomputable section
/-! WHAT IS TOLD, on both sides -/
theorem HSr1_row {D E : Nat → Nat → Int32} {w w' : Nat → Int32} (H : HSr 1 D w) (r : ∀ j, 1 ≤ j → j ≤ 17 → E j = D j) (e : ∀ k, k < 1894 → w' k = w k) : HSr 1 E w' := by
  obtain ⟨t1, t2, t3, t4, t5, t6, t7, t8, c1, c2, c3, c4⟩ := H
  refine ⟨TWr_same t1 (r _ (by decide) (by decide)) (r _ (by decide) (by decide)) (e _ (by decide)) (fun a b ha hb => e _ (by have := ixG_rng ha hb; omega)), TWr_same t2 (r _ (by decide) (by decide)) (r _ (by decide) (by decide)) (e _ (by decide)) (fun a b ha hb => e _ (by unfold ixB; omega)), LWr_same t3 (r _ (by decide) (by decide)) (r _ (by decide) (by decide)) (fun k hk => e k (by omega)), CWr_same t4 (r _ (by decide) (by decide)) (r _ (by decide) (by decide)) (fun k h1 h2 => e k (by omega)), TWr_same t5 (r _ (by decide) (by decide)) (r _ (by decide) (by decide)) (e _ (by decide)) (fun a b ha hb => e _ (by unfold ixS; omega)), TWr_same t6 (r _ (by decide) (by decide)) (r _ (by decide) (by decide)) (e _ (by decide)) (fun a b ha hb => e _ (by unfold ixH; omega)), TWr_same t7 (r _ (by decide) (by decide)) (r _ (by decide) (by decide)) (e _ (by decide)) (fun a b ha hb => e _ (by unfold ixR; omega)), TWr_same t8 (r _ (by decide) (by decide)) (r _ (by decide) (by decide)) (e _ (by decide)) (fun a b ha hb => e _ (by unfold ixC; omega)), ?_, ?_, ?_, ?_⟩
  · rw [r 1 (by decide) (by decide), e 113 (by decide)]; exact c1
  · rw [r 1 (by decide) (by decide), e 114 (by decide)]; exact c2
  · rw [r 1 (by decide) (by decide), e 0 (by decide)]; exact c3
  · rw [r 1 (by decide) (by decide), e 1 (by decide)]; exact c4
theorem SIM_forget {a b u t : mG} (h : SIM a b) {n nb nc : Nat} (hn : n ≤ 12) (hnb : nb ≤ 150) (e2 : u.1 2 3 = cn n) (e4 : u.1 4 3 = cn nb) (e8 : u.1 8 3 = cn nc) (H : HSr 1 u.1 (t.1 89)) (L : LTy nc (t.1 89)) (V : VIm n (t.1 89)) (f1 : u.1 35 1 = ci 0) (f2 : u.1 35 2 = a.1 35 2) (em : ∀ j, 36 ≤ j → j ≤ 54 → u.1 j = a.1 j) (f3 : t.1 88 3 = ci 0) (i0 : u.1 0 2 = a.1 0 2) (ir : ∀ j, 18 ≤ j → j ≤ 34 → u.1 j = a.1 j) (i4 : t.1 88 4 = b.1 88 4) (i90 : t.1 90 = b.1 90) : SIM u t :=
  ⟨⟨n, nb, nc, hn, hnb, e2, e4, e8, H, L, V⟩, PSr_forget h.2.1 f1 f2 f3 hn e2 hnb e4 em, IMG_same h.2.2 i0 ir i4 i90⟩
/-- one number or one cell is told, and the past forgotten -/
theorem SIM_told {a b : mG} {D E : Nat → Nat → Int32} {za zb : Nat → Nat → Int64} (h : SIM a b) (H : HSr 1 D (E 89)) (rD : ∀ j, j ≠ 1 → j ≠ 3 → D j = a.1 j) (rE : ∀ j, j ≠ 89 → E j = b.1 j) (L : ∀ k, (k = 117 ∨ 985 ≤ k) → E 89 k = b.1 89 k) (V : ∀ n, n ≤ 12 → VIm n (b.1 89) → VIm n (E 89)) : SIM (mu D 35 1 (ci 0), za) (mu E 88 3 (ci 0), zb) := by
  obtain ⟨⟨n, nb, nc, hn, hnb, e2, e4, e8, H0, L0, V0⟩, _⟩ := id h
  have r : ∀ j, j ≠ 1 → j ≠ 3 → j ≠ 35 → mu D 35 1 (ci 0) j = a.1 j := fun j h1 h2 h3 => (mu_row h3).trans (rD j h1 h2)
  have e89 : mu E 88 3 (ci 0) 89 = E 89 := mu_row (by decide)
  have q2 : mu D 35 1 (ci 0) 35 2 = a.1 35 2 := (mu_cell (by decide)).trans (congrFun (rD 35 (by decide) (by decide)) 2)
  have q4 : mu E 88 3 (ci 0) 88 4 = b.1 88 4 := (mu_cell (by decide)).trans (congrFun (rE 88 (by decide)) 4)
  have q90 : mu E 88 3 (ci 0) 90 = b.1 90 := (mu_row (by decide)).trans (rE 90 (by decide))
  have q1 : mu D 35 1 (ci 0) 35 1 = ci 0 := mu_same
  have q3 : mu E 88 3 (ci 0) 88 3 = ci 0 := mu_same
  refine SIM_forget h (u := (mu D 35 1 (ci 0), za)) (t := (mu E 88 3 (ci 0), zb)) (nc := nc) hn hnb ?_ ?_ ?_ (HSr1_row H (fun j _ h2 => mu_row (by omega)) (fun k _ => congrFun e89 k)) ?_ ?_ q1 q2 (fun j h1 _ => r j (by omega) (by omega) (by omega)) q3 (congrFun (r 0 (by decide) (by decide) (by decide)) 2) (fun j h1 h2 => r j (by omega) (by omega) (by omega)) q4 q90
  · exact (congrFun (r 2 (by decide) (by decide) (by decide)) 3).trans e2
  · exact (congrFun (r 4 (by decide) (by decide) (by decide)) 3).trans e4
  · exact (congrFun (r 8 (by decide) (by decide) (by decide)) 3).trans e8
  · exact LTy_same L0 (fun k hk => (congrFun e89 k).trans (L k hk))
  · show VIm n (mu E 88 3 (ci 0) 89)
    rw [e89]; exact V n hn V0
theorem VIm_put {E : Nat → Nat → Int32} {n k : Nat} {v : Int32} (hn : n ≤ 12) (h : VIm n (E 89)) (hk : k ≠ 0 ∧ (k < 3 ∨ 39 ≤ k)) : VIm n (mu E 89 k v 89) :=
  ⟨by rw [show mu E 89 k v 89 0 = E 89 0 from mu_cell (Or.inr (by omega))]; exact h.1, by rw [show mu E 89 k v 89 0 = E 89 0 from mu_cell (Or.inr (by omega))]; exact h.2.1, fun i hi => VIg_put (g := i) (h.2.2 i hi) (by omega)⟩
theorem R_state {a b : mG} {x : Int32} (h : SIM a b) : rel (F_X11_state x a) (F_X12_state x b) (fun τ υ => τ.1 = υ.1 ∧ SIM τ.2 υ.2) := by
  obtain ⟨⟨n, nb, nc, hn, hnb, e2, e4, e8, H, L, V⟩, _⟩ := id h
  unfold F_X11_state F_X12_state F_X5_forget F_X12_forgets
  dsimp only
  rw [b1_some, b1_some]
  refine rel_some ⟨H.2.2.2.2.2.2.2.2.2.2.2, SIM_told h (HSr_num H (Or.inr (Or.inr (Or.inr ⟨rfl, rfl⟩)))) (fun j h1 _ => mu_row h1) (fun j h1 => mu_row h1) (fun k hk => mu_cell (Or.inr (by omega))) (fun m hm q => VIm_put hm q (by omega))⟩
theorem R_set {a b : mG} {x y z : Int32} (h : SIM a b) : rel (F_X11_set x y z a) (F_X12_set x y z b) (fun τ υ => τ.1 = υ.1 ∧ SIM τ.2 υ.2) := by
  obtain ⟨⟨n, nb, nc, hn, hnb, e2, e4, e8, H, L, V⟩, _⟩ := id h
  have h112 := SIM_n H e2
  have wb : ∀ p q r : Int32, wi p q r = 0 ∨ wi p q r = 1 := fun p q r => wi_b p q r
  unfold F_X11_set F_X12_set F_X11_canSet F_X11_canSet_69 F_X12_set_92
  by_cases h0 : x = ci 0
  · rw [if_pos h0, if_pos h0, V_within, F_isIn, b1_some, b1_some, if_pos (wb _ _ _), b1_some]
    by_cases hw : wi z (ci 0) (c8 20) = 0
    · rw [if_pos hw, if_pos hw]; exact rel_some ⟨rfl, h⟩
    · rw [if_neg hw, if_neg hw, if_pos (h0.trans c0e0)]
      unfold F_X11_set_56 F_X12_set_110 F_X5_forget F_X12_forgets
      dsimp only
      rw [b1_some, b1_some]
      exact rel_some ⟨rfl, SIM_told h (HSr_num H (Or.inl ⟨rfl, rfl⟩)) (fun j h1 _ => mu_row h1) (fun j h1 => mu_row h1) (fun k hk => mu_cell (Or.inr (by omega))) (fun m hm q => VIm_put hm q (by omega))⟩
  rw [if_neg h0, if_neg h0]
  by_cases h1 : x = ci 1
  · rw [if_pos h1, if_pos h1, if_pos h1, V_within, F_isIn, b1_some, b1_some, if_pos (wb _ _ _), b1_some]
    by_cases hw : wi z (ci 0) (c8 9) = 0
    · rw [if_pos hw, if_pos hw]; exact rel_some ⟨rfl, h⟩
    · rw [if_neg hw, if_neg hw, if_neg (fun e => h0 (e.trans c0e0.symm))]
      unfold F_X11_set_56 F_X12_set_110 F_X5_forget F_X12_forgets
      dsimp only
      rw [b1_some, b1_some]
      exact rel_some ⟨rfl, SIM_told h (HSr_num H (Or.inr (Or.inl ⟨rfl, rfl⟩))) (fun j h1 _ => mu_row h1) (fun j h1 => mu_row h1) (fun k hk => mu_cell (Or.inr (by omega))) (fun m hm q => VIm_put hm q (by omega))⟩
  rw [if_neg h1, if_neg h1, if_neg h1]
  by_cases h2 : x = ci 2
  · rw [if_pos h2, if_pos h2, V_isGuest, V_isGuestR h112 hn, b1_some, b1_some, show a.1 (1 + 1) 3 = cn n from e2]
    by_cases hx : ig y (cn n) = 0
    · rw [if_pos hx, if_pos hx, b1_some, if_pos c0e0]; exact rel_some ⟨rfl, h⟩
    rw [if_neg hx, if_neg hx, V_within, F_isIn, b1_some, b1_some]
    by_cases hw : wi z (ci 0) (c8 99) = 0
    · rw [if_pos hw, if_pos hw, b1_some, if_pos c0e0]; exact rel_some ⟨rfl, h⟩
    rw [if_neg hw, if_neg hw, b1_some, if_neg c1n0, if_neg (fun e => h0 (e.trans c0e0.symm))]
    obtain ⟨g, hg, ey⟩ := ig_cn (by omega) hx
    subst ey
    rw [V_putG (c := 1) (k := ci 1) H.1.2.1 e2 hn hg (by decide) rfl, b1_some, show c16 131 + cn g = cn (131 + g) from cn_add (a := 131) (by omega), cn_nat (n := 131 + g) (by omega)]
    refine rel_rg ?_
    unfold F_X11_set_56 F_X12_set_110 F_X5_forget F_X12_forgets
    dsimp only
    rw [b1_some, b1_some]
    exact rel_some ⟨rfl, SIM_told h (HSr_put H e2 hg hn (by decide) rfl) (fun j _ h2 => mu_row h2) (fun j h1 => mu_row h1) (fun k hk => mu_cell (Or.inr (by omega))) (fun m hm q => VIm_put hm q (by omega))⟩
  · rw [if_neg h2, if_neg h2, b1_some, if_pos c0e0]
    exact rel_some ⟨rfl, h⟩
/-! rows of numbers -/
def BL (D : Nat → Nat → Int32) (t p : Nat) : List Int32 → (Nat → Nat → Int32)
  | [] => D
  | x :: r => BL (mu D t p x) t (p + 1) r
theorem BL_row {t j : Nat} (h : j ≠ t) : ∀ (l : List Int32) (D : Nat → Nat → Int32) (p : Nat), BL D t p l j = D j := by
  intro l
  induction l with
  | nil => intro D p; rfl
  | cons x r ih => intro D p; exact (ih (mu D t p x) (p + 1)).trans (mu_row h)
theorem BL_out {t k : Nat} : ∀ (l : List Int32) (D : Nat → Nat → Int32) (p : Nat), (k < p ∨ p + l.length ≤ k) → BL D t p l t k = D t k := by
  intro l
  induction l with
  | nil => intro D p _; rfl
  | cons x r ih =>
    intro D p h
    have h2 : k < p ∨ p + (r.length + 1) ≤ k := h
    exact (ih (mu D t p x) (p + 1) (by omega)).trans (mu_cell (Or.inr (by omega)))
theorem BL_in {t c : Nat} : ∀ (l : List Int32) (D : Nat → Nat → Int32) (p : Nat), c < l.length → BL D t p l t (p + c) = l.getD c 0 := by
  intro l
  induction l generalizing c with
  | nil => intro D p h; exact absurd h (by simp)
  | cons x r ih =>
    intro D p h
    cases c with
    | zero => exact (BL_out r (mu D t p x) (p + 1) (by omega)).trans mu_same
    | succ c =>
      have h2 : c + 1 < r.length + 1 := h
      have q := ih (c := c) (mu D t p x) (p + 1) (by omega)
      rw [show p + (c + 1) = p + 1 + c by omega]
      exact q
/-- rooms and callers told anew -/
theorem SIM_rc {a b : mG} {D E : Nat → Nat → Int32} {za zb : Nat → Nat → Int64} (h : SIM a b) (H : HSr 1 D (E 89)) (rD : ∀ j, j ≠ 14 → j ≠ 15 → j ≠ 16 → j ≠ 17 → D j = a.1 j) (rE : ∀ j, j ≠ 89 → E j = b.1 j) (L : ∀ k, (k < 112 ∨ k = 117 ∨ (985 ≤ k ∧ k < 1049) ∨ (1050 ≤ k ∧ k < 1850)) → E 89 k = b.1 89 k) : SIM (D, za) (E, zb) := by
  obtain ⟨⟨n, nb, nc, hn, hnb, e2, e4, e8, H0, L0, V0⟩, P, I⟩ := id h
  have r : ∀ j, j ≠ 14 → j ≠ 15 → j ≠ 16 → j ≠ 17 → D j = a.1 j := rD
  refine ⟨⟨n, nb, nc, hn, hnb, ?_, ?_, ?_, H, ?_, ?_⟩, ?_, IMG_same I (congrFun (r 0 (by decide) (by decide) (by decide) (by decide)) 2) (fun j h1 h2 => r j (by omega) (by omega) (by omega) (by omega)) (congrFun (rE 88 (by decide)) 4) (rE 90 (by decide))⟩
  · show D 2 3 = _
    rw [r 2 (by decide) (by decide) (by decide) (by decide)]; exact e2
  · show D 4 3 = _
    rw [r 4 (by decide) (by decide) (by decide) (by decide)]; exact e4
  · show D 8 3 = _
    rw [r 8 (by decide) (by decide) (by decide) (by decide)]; exact e8
  · obtain ⟨h1, m, hm, h2, h3⟩ := L0
    refine ⟨h1, m, hm, (L 117 (by omega)).trans h2, fun q hq => ?_⟩
    obtain ⟨p, q', c, hpq, hqc, hc, z1, z2, z3, z4, z5⟩ := h3 q hq
    refine ⟨p, q', c, hpq, hqc, hc, (L _ (by omega)).trans z1, (L _ (by omega)).trans z2, (L _ (by omega)).trans z3, ?_, ?_⟩
    · exact Rt_congr _ _ _ _ (fun j _ hj => L _ (by omega)) z4
    · rcases z5 with e | e
      · exact Or.inl e
      · exact Or.inr (Rt_congr _ _ _ _ (fun j _ hj => L _ (by omega)) e)
  · exact VIm_congr hn (fun k hk => L k (Or.inl hk)) V0
  · exact PSr_go P (r 35 (by decide) (by decide) (by decide) (by decide)) (congrFun (rE 88 (by decide)) 3) (rE 91 (by decide)) (r 2 (by decide) (by decide) (by decide) (by decide)) e2 hn e4 (Nat.le_refl _) hnb (by rw [show ((D, za) : mG).1 4 = D 4 from rfl, r 4 (by decide) (by decide) (by decide) (by decide)]; exact e4) (fun j h1 h2 => r j (by omega) (by omega) (by omega) (by omega)) (fun r' c _ _ => congrFun (r 3 (by decide) (by decide) (by decide) (by decide)) _)
/-- a table of the house but one stands -/
theorem HSr_7 {D D' : Nat → Nat → Int32} {w w' : Nat → Int32} (H : HSr 1 D w) (h7 : TWr 14 4 8 118 ixR D' w') (rD : ∀ j, j ≠ 14 → j ≠ 15 → D' j = D j) (e : ∀ k, k ≠ 118 → (k < 203 ∨ 235 ≤ k) → w' k = w k) : HSr 1 D' w' := by
  obtain ⟨t1, t2, t3, t4, t5, t6, t7, t8, c1, c2, c3, c4⟩ := H
  refine ⟨TWr_same t1 (rD _ (by decide) (by decide)) (rD _ (by decide) (by decide)) (e _ (by decide) (by decide)) (fun a b ha hb => e _ (by have := ixG_rng ha hb; omega) (by have := ixG_rng ha hb; omega)), TWr_same t2 (rD _ (by decide) (by decide)) (rD _ (by decide) (by decide)) (e _ (by decide) (by decide)) (fun a b ha hb => e _ (by unfold ixB; omega) (by unfold ixB; omega)), LWr_same t3 (rD _ (by decide) (by decide)) (rD _ (by decide) (by decide)) (fun k hk => e k (by omega) (by omega)), CWr_same t4 (rD _ (by decide) (by decide)) (rD _ (by decide) (by decide)) (fun k h1 h2 => e k (by omega) (by omega)), TWr_same t5 (rD _ (by decide) (by decide)) (rD _ (by decide) (by decide)) (e _ (by decide) (by decide)) (fun a b ha hb => e _ (by unfold ixS; omega) (by unfold ixS; omega)), TWr_same t6 (rD _ (by decide) (by decide)) (rD _ (by decide) (by decide)) (e _ (by decide) (by decide)) (fun a b ha hb => e _ (by unfold ixH; omega) (by unfold ixH; omega)), h7, TWr_same t8 (rD _ (by decide) (by decide)) (rD _ (by decide) (by decide)) (e _ (by decide) (by decide)) (fun a b ha hb => e _ (by unfold ixC; omega) (by unfold ixC; omega)), ?_, ?_, ?_, ?_⟩
  · rw [rD 1 (by decide) (by decide), e 113 (by decide) (by decide)]; exact c1
  · rw [rD 1 (by decide) (by decide), e 114 (by decide) (by decide)]; exact c2
  · rw [rD 1 (by decide) (by decide), e 0 (by decide) (by decide)]; exact c3
  · rw [rD 1 (by decide) (by decide), e 1 (by decide) (by decide)]; exact c4
theorem HSr_8 {D D' : Nat → Nat → Int32} {w w' : Nat → Int32} (H : HSr 1 D w) (h8 : TWr 16 3 8 1049 ixC D' w') (rD : ∀ j, j ≠ 16 → j ≠ 17 → D' j = D j) (e : ∀ k, k ≠ 1049 → k < 1870 → w' k = w k) : HSr 1 D' w' := by
  obtain ⟨t1, t2, t3, t4, t5, t6, t7, t8, c1, c2, c3, c4⟩ := H
  refine ⟨TWr_same t1 (rD _ (by decide) (by decide)) (rD _ (by decide) (by decide)) (e _ (by decide) (by decide)) (fun a b ha hb => e _ (by have := ixG_rng ha hb; omega) (by have := ixG_rng ha hb; omega)), TWr_same t2 (rD _ (by decide) (by decide)) (rD _ (by decide) (by decide)) (e _ (by decide) (by decide)) (fun a b ha hb => e _ (by unfold ixB; omega) (by unfold ixB; omega)), LWr_same t3 (rD _ (by decide) (by decide)) (rD _ (by decide) (by decide)) (fun k hk => e k (by omega) (by omega)), CWr_same t4 (rD _ (by decide) (by decide)) (rD _ (by decide) (by decide)) (fun k h1 h2 => e k (by omega) (by omega)), TWr_same t5 (rD _ (by decide) (by decide)) (rD _ (by decide) (by decide)) (e _ (by decide) (by decide)) (fun a b ha hb => e _ (by unfold ixS; omega) (by unfold ixS; omega)), TWr_same t6 (rD _ (by decide) (by decide)) (rD _ (by decide) (by decide)) (e _ (by decide) (by decide)) (fun a b ha hb => e _ (by unfold ixH; omega) (by unfold ixH; omega)), TWr_same t7 (rD _ (by decide) (by decide)) (rD _ (by decide) (by decide)) (e _ (by decide) (by decide)) (fun a b ha hb => e _ (by unfold ixR; omega) (by unfold ixR; omega)), h8, ?_, ?_, ?_, ?_⟩
  · rw [rD 1 (by decide) (by decide), e 113 (by decide) (by decide)]; exact c1
  · rw [rD 1 (by decide) (by decide), e 114 (by decide) (by decide)]; exact c2
  · rw [rD 1 (by decide) (by decide), e 0 (by decide) (by decide)]; exact c3
  · rw [rD 1 (by decide) (by decide), e 1 (by decide) (by decide)]; exact c4
/-- a table cleared -/
theorem TWr_clear {t W M cnt : Nat} {ix : Nat → Nat → Nat} {D D' : Nat → Nat → Int32} {w w' : Nat → Int32} (h : TWr t W M cnt ix D w) (e : ∀ c, c ≠ 3 → D' t c = D t c) (e3 : D' t 3 = ci 0) (ec : w' cnt = ci 0) : TWr t W M cnt ix D' w' :=
  ⟨(e 0 (by decide)).trans h.1, (e 1 (by decide)).trans h.2.1, 0, Nat.zero_le _, e3.trans (by decide), ec.trans (by decide), fun r c hr => absurd hr (by omega)⟩
theorem al_15 : m_alen (14 + 1) = 32 := by decide +kernel
theorem al_17 : m_alen (16 + 1) = 24 := by decide +kernel
theorem R_room {a b : mG} {x y z u : Int32} (h : SIM a b) : rel (F_X11_room x y z u a) (F_X12_room x y z u b) (fun τ υ => τ.1 = υ.1 ∧ SIM τ.2 υ.2) := by
  obtain ⟨⟨n, nb, nc, hn, hnb, e2, e4, e8, H, L, V⟩, _⟩ := id h
  have h112 := SIM_n H e2
  have t7 := H.2.2.2.2.2.2.1
  obtain ⟨w0, w1, m, hm, g3, gc, gx⟩ := id t7
  have g3 : a.1 14 3 = cn m := g3
  have w0 : a.1 14 0 = cn 8 := w0
  have w1 : a.1 14 1 = cn 4 := w1
  unfold F_X11_room F_X12_room F_X11_room_73 F_X12_room_67
  by_cases hx : x = ci (-1)
  · rw [if_pos hx, if_pos hx]
    unfold F_X10_clear
    dsimp only
    rw [b1_some]
    refine rel_some ⟨rfl, SIM_rc h (HSr_7 H (TWr_clear t7 (fun c hc => mu_cell (Or.inr hc)) mu_same mu_same) (fun j h1 _ => mu_row h1) (fun k h1 _ => mu_cell (Or.inr h1))) (fun j h1 _ _ _ => mu_row h1) (fun j h1 => mu_row h1) (fun k hk => mu_cell (Or.inr (by omega)))⟩
  rw [if_neg hx, if_neg hx, V_isGuest, V_isGuestR h112 hn, b1_some, b1_some, show a.1 (1 + 1) 3 = cn n from e2]
  by_cases hg : ig x (cn n) = 0
  · rw [if_pos hg, if_pos hg]; exact rel_some ⟨rfl, h⟩
  rw [if_neg hg, if_neg hg, V_within, F_isIn, b1_some, b1_some]
  by_cases h1 : wi y (ci 1) (c8 99) = 0
  · rw [if_pos h1, if_pos h1]; exact rel_some ⟨rfl, h⟩
  rw [if_neg h1, if_neg h1, V_within, F_isIn, b1_some, b1_some]
  by_cases h2 : wi z (ci 1) (c16 999) = 0
  · rw [if_pos h2, if_pos h2]; exact rel_some ⟨rfl, h⟩
  rw [if_neg h2, if_neg h2, V_within, F_isIn, b1_some, b1_some]
  by_cases h3 : wi u (ci 0) (c8 99) = 0
  · rw [if_pos h3, if_pos h3]; exact rel_some ⟨rfl, h⟩
  rw [if_neg h3, if_neg h3, V_full w0 g3 (by omega) (by decide), b1_some, gc]
  by_cases kf : m < 8
  · have PUT : ∀ (D : Nat → Nat → Int32) (c : Nat) (cc v : Int32), cc = cn c → D 14 = mu a.1 14 3 (cn (m + 1)) 14 → c < 4 → F_X10_put 14 (cn m) cc v (D, a.2) = some (mu D 15 (m * 4 + c) v, a.2) := fun D c cc v e d hc =>
      V_put (t := 14) (s := (D, a.2)) (r := m) (c := c) (n := m + 1) (W := 4) rfl e (by show D 14 1 = _; rw [d, mu_cell (by decide)]; exact w1) (by show D 14 3 = _; rw [d, mu_same]) (by omega) hc (by rw [al_15]; omega) (by omega)
    rw [if_pos kf, if_pos c0e0, V_add w0 g3 (by decide) kf, b2_some, PUT _ 0 (ci 0) x rfl rfl (by decide), b1_some, PUT _ 1 (ci 1) y rfl (mu_row (by decide)) (by decide), b1_some, PUT _ 2 (ci 2) z rfl ((mu_row (by decide)).trans (mu_row (by decide))) (by decide), b1_some, PUT _ 3 (ci 3) u rfl ((mu_row (by decide)).trans ((mu_row (by decide)).trans (mu_row (by decide)))) (by decide), b1_some, if_neg (fun q => absurd ((cn_inj (b := 8) (by omega) (by decide)).mp (q.trans (by decide))) (by omega))]
    have e16 : c16 203 + (ci 4) * cn m = cn (203 + 4 * m) := by
      rw [show (ci 4) * cn m = cn (4 * m) from cn_mul (a := 4) (by omega) (by omega) (by omega)]
      exact cn_add (a := 203) (by omega)
    rw [e16]
    dsimp only
    rw [show cn (203 + 4 * m) + ci 0 = cn (203 + 4 * m) from cn_add (b := 0) (by omega), show cn (203 + 4 * m) + ci 1 = cn (203 + 4 * m + 1) from cn_add (b := 1) (by omega), show cn (203 + 4 * m) + ci 2 = cn (203 + 4 * m + 2) from cn_add (b := 2) (by omega), show cn (203 + 4 * m) + ci 3 = cn (203 + 4 * m + 3) from cn_add (b := 3) (by omega), cn_nat (n := 203 + 4 * m) (by omega), cn_nat (n := 203 + 4 * m + 1) (by omega), cn_nat (n := 203 + 4 * m + 2) (by omega), cn_nat (n := 203 + 4 * m + 3) (by omega)]
    refine rel_rg (rel_rg (rel_rg (rel_rg ?_)))
    have eD : mu (mu (mu (mu (mu a.1 14 3 (cn (m + 1))) 15 (m * 4 + 0) x) 15 (m * 4 + 1) y) 15 (m * 4 + 2) z) 15 (m * 4 + 3) u = BL (mu a.1 14 3 (cn (m + 1))) 15 (m * 4) [x, y, z, u] := rfl
    have eE : mu (mu (mu (mu b.1 89 (203 + 4 * m) x) 89 (203 + 4 * m + 1) y) 89 (203 + 4 * m + 2) z) 89 (203 + 4 * m + 3) u = BL b.1 89 (203 + 4 * m) [x, y, z, u] := rfl
    rw [eD, eE]
    have e118 : BL b.1 89 (203 + 4 * m) [x, y, z, u] 89 118 = cn m := (BL_out _ _ _ (by omega)).trans gc
    rw [e118, cnu (by omega), BL_row (j := 14) (t := 15) (by decide), mu_same, mu_same]
    have c89 : ∀ k, k ≠ 118 → (k < 203 + 4 * m ∨ 203 + 4 * m + 4 ≤ k) → mu (BL b.1 89 (203 + 4 * m) [x, y, z, u]) 89 118 (cn (m + 1)) 89 k = b.1 89 k := fun k h1 h2 => (mu_cell (Or.inr h1)).trans (BL_out _ _ _ h2)
    refine rel_some ⟨rfl, SIM_rc h (HSr_7 H (TWr_add (n := m) t7 g3 kf (by decide) (fun c hc => ?_) ?_ (fun k hk => ?_) mu_same (fun r c hr hc => c89 _ (by unfold ixR; omega) (by unfold ixR; omega)) (fun c hc => ?_)) (fun j h1 h2 => (BL_row h2 _ _ _).trans (mu_row h1)) (fun k h1 h2 => c89 k h1 (by omega))) (fun j h1 h2 _ _ => (BL_row h2 _ _ _).trans (mu_row h1)) (fun j h1 => (mu_row h1).trans (BL_row h1 _ _ _)) (fun k hk => c89 k (by omega) (by omega))⟩
    · rw [BL_row (by decide)]; exact mu_cell (Or.inr hc)
    · rw [BL_row (by decide)]; exact mu_same
    · show BL _ 15 (m * 4) [x, y, z, u] 15 k = a.1 15 k
      rw [BL_out _ _ _ (Or.inl hk)]; exact congrFun (mu_row (by decide)) k
    · show BL _ 15 (m * 4) [x, y, z, u] 15 (m * 4 + c) = _
      rw [BL_in _ _ _ hc, mu_cell (Or.inr (by unfold ixR; omega)), show ixR m c = 203 + 4 * m + c from rfl, BL_in _ _ _ hc]
  · rw [if_neg kf, if_neg c1n0, if_pos (show cn m = c8 8 by rw [show m = 8 by omega]; decide)]
    exact rel_some ⟨rfl, h⟩
theorem R_caller {a b : mG} {x y z : Int32} (h : SIM a b) : rel (F_X11_caller x y z a) (F_X12_caller x y z b) (fun τ υ => τ.1 = υ.1 ∧ SIM τ.2 υ.2) := by
  obtain ⟨⟨n, nb, nc, hn, hnb, e2, e4, e8, H, L, V⟩, _⟩ := id h
  have h112 := SIM_n H e2
  have t8 := H.2.2.2.2.2.2.2.1
  obtain ⟨w0, w1, m, hm, g3, gc, gx⟩ := id t8
  have g3 : a.1 16 3 = cn m := g3
  have w0 : a.1 16 0 = cn 8 := w0
  have w1 : a.1 16 1 = cn 3 := w1
  unfold F_X11_caller F_X12_caller F_X11_caller_63 F_X12_caller_59
  by_cases hx : x = ci (-1)
  · rw [if_pos hx, if_pos hx]
    unfold F_X10_clear
    dsimp only
    rw [b1_some]
    refine rel_some ⟨rfl, SIM_rc h (HSr_8 H (TWr_clear t8 (fun c hc => mu_cell (Or.inr hc)) mu_same mu_same) (fun j h1 _ => mu_row h1) (fun k h1 _ => mu_cell (Or.inr h1))) (fun j _ _ h1 _ => mu_row h1) (fun j h1 => mu_row h1) (fun k hk => mu_cell (Or.inr (by omega)))⟩
  rw [if_neg hx, if_neg hx, V_isGuest, V_isGuestR h112 hn, b1_some, b1_some, show a.1 (1 + 1) 3 = cn n from e2]
  by_cases hg : ig x (cn n) = 0
  · rw [if_pos hg, if_pos hg]; exact rel_some ⟨rfl, h⟩
  rw [if_neg hg, if_neg hg, V_within, F_isIn, b1_some, b1_some]
  by_cases h1 : wi y (ci 0) (c16 999) = 0
  · rw [if_pos h1, if_pos h1]; exact rel_some ⟨rfl, h⟩
  rw [if_neg h1, if_neg h1, V_within, F_isIn, b1_some, b1_some]
  by_cases h2 : wi z (ci 0) (c16 999) = 0
  · rw [if_pos h2, if_pos h2]; exact rel_some ⟨rfl, h⟩
  rw [if_neg h2, if_neg h2, V_full w0 g3 (by omega) (by decide), b1_some, gc]
  by_cases kf : m < 8
  · have PUT : ∀ (D : Nat → Nat → Int32) (c : Nat) (cc v : Int32), cc = cn c → D 16 = mu a.1 16 3 (cn (m + 1)) 16 → c < 3 → F_X10_put 16 (cn m) cc v (D, a.2) = some (mu D 17 (m * 3 + c) v, a.2) := fun D c cc v e d hc =>
      V_put (t := 16) (s := (D, a.2)) (r := m) (c := c) (n := m + 1) (W := 3) rfl e (by show D 16 1 = _; rw [d, mu_cell (by decide)]; exact w1) (by show D 16 3 = _; rw [d, mu_same]) (by omega) hc (by rw [al_17]; omega) (by omega)
    rw [if_pos kf, if_pos c0e0, V_add w0 g3 (by decide) kf, b2_some, PUT _ 0 (ci 0) x rfl rfl (by decide), b1_some, PUT _ 1 (ci 1) y rfl (mu_row (by decide)) (by decide), b1_some, PUT _ 2 (ci 2) z rfl ((mu_row (by decide)).trans (mu_row (by decide))) (by decide), b1_some, if_neg (fun q => absurd ((cn_inj (b := 8) (by omega) (by decide)).mp (q.trans (by decide))) (by omega))]
    have e16 : c16 1870 + (ci 3) * cn m = cn (1870 + 3 * m) := by
      rw [show (ci 3) * cn m = cn (3 * m) from cn_mul (a := 3) (by omega) (by omega) (by omega)]
      exact cn_add (a := 1870) (by omega)
    rw [e16]
    dsimp only
    rw [show cn (1870 + 3 * m) + ci 1 = cn (1870 + 3 * m + 1) from cn_add (b := 1) (by omega), show cn (1870 + 3 * m) + ci 2 = cn (1870 + 3 * m + 2) from cn_add (b := 2) (by omega), cn_nat (n := 1870 + 3 * m) (by omega), cn_nat (n := 1870 + 3 * m + 1) (by omega), cn_nat (n := 1870 + 3 * m + 2) (by omega)]
    refine rel_rg (rel_rg (rel_rg ?_))
    have eD : mu (mu (mu (mu a.1 16 3 (cn (m + 1))) 17 (m * 3 + 0) x) 17 (m * 3 + 1) y) 17 (m * 3 + 2) z = BL (mu a.1 16 3 (cn (m + 1))) 17 (m * 3) [x, y, z] := rfl
    have eE : mu (mu (mu b.1 89 (1870 + 3 * m) x) 89 (1870 + 3 * m + 1) y) 89 (1870 + 3 * m + 2) z = BL b.1 89 (1870 + 3 * m) [x, y, z] := rfl
    rw [eD, eE]
    have e118 : BL b.1 89 (1870 + 3 * m) [x, y, z] 89 1049 = cn m := (BL_out _ _ _ (by omega)).trans gc
    rw [e118, cnu (by omega), BL_row (j := 16) (t := 17) (by decide), mu_same, mu_same]
    have c89 : ∀ k, k ≠ 1049 → (k < 1870 + 3 * m ∨ 1870 + 3 * m + 3 ≤ k) → mu (BL b.1 89 (1870 + 3 * m) [x, y, z]) 89 1049 (cn (m + 1)) 89 k = b.1 89 k := fun k h1 h2 => (mu_cell (Or.inr h1)).trans (BL_out _ _ _ h2)
    refine rel_some ⟨rfl, SIM_rc h (HSr_8 H (TWr_add (n := m) t8 g3 kf (by decide) (fun c hc => ?_) ?_ (fun k hk => ?_) mu_same (fun r c hr hc => c89 _ (by unfold ixC; omega) (by unfold ixC; omega)) (fun c hc => ?_)) (fun j h1 h2 => (BL_row h2 _ _ _).trans (mu_row h1)) (fun k h1 h2 => c89 k h1 (by omega))) (fun j _ _ h1 h2 => (BL_row h2 _ _ _).trans (mu_row h1)) (fun j h1 => (mu_row h1).trans (BL_row h1 _ _ _)) (fun k hk => c89 k (by omega) (by omega))⟩
    · rw [BL_row (by decide)]; exact mu_cell (Or.inr hc)
    · rw [BL_row (by decide)]; exact mu_same
    · show BL _ 17 (m * 3) [x, y, z] 17 k = a.1 17 k
      rw [BL_out _ _ _ (Or.inl hk)]; exact congrFun (mu_row (by decide)) k
    · show BL _ 17 (m * 3) [x, y, z] 17 (m * 3 + c) = _
      rw [BL_in _ _ _ hc, mu_cell (Or.inr (by unfold ixC; omega)), show ixC m c = 1870 + 3 * m + c from rfl, BL_in _ _ _ hc]
  · rw [if_neg kf, if_neg c1n0, if_pos (show cn m = c8 8 by rw [show m = 8 by omega]; decide)]
    exact rel_some ⟨rfl, h⟩
end
end
/-! 5zd.guest -/
section
noncomputable section
/-! A GUEST COMES, WHAT WAS DONE GOES BACK, on both sides -/
theorem HSr_othN {h : Nat} {D D' : Nat → Nat → Int32} {w w' : Nat → Int32} (H : HSr h D w) (hG : TWr (h + 1) 11 12 112 ixG D' w') (hD : ∀ j, h + 3 ≤ j → j ≤ h + 16 → D' j = D j) (hc : ∀ c, 8 ≤ c → c ≤ 11 → D' h c = D h c) (hw : ∀ k, NG k → k ≠ 112 → w' k = w k) : HSr h D' w' := by
  obtain ⟨_, t2, t3, t4, t5, t6, t7, t8, c1, c2, c3, c4⟩ := H
  refine ⟨hG, TWr_same t2 (hD _ (by omega) (by omega)) (hD _ (by omega) (by omega)) (hw _ (by unfold NG; omega) (by omega)) (fun r c hr hcc => hw _ (by unfold NG ixB; omega) (by unfold ixB; omega)), LWr_same t3 (hD _ (by omega) (by omega)) (hD _ (by omega) (by omega)) (fun k hk => hw k (by unfold NG; omega) (by omega)), CWr_same t4 (hD _ (by omega) (by omega)) (hD _ (by omega) (by omega)) (fun k h1 h2 => hw k (by unfold NG; omega) (by omega)), TWr_same t5 (hD _ (by omega) (by omega)) (hD _ (by omega) (by omega)) (hw _ (by unfold NG; omega) (by omega)) (fun r c hr hcc => hw _ (by unfold NG ixS; omega) (by unfold ixS; omega)), TWr_same t6 (hD _ (by omega) (by omega)) (hD _ (by omega) (by omega)) (hw _ (by unfold NG; omega) (by omega)) (fun r c hr hcc => hw _ (by unfold NG ixH; omega) (by unfold ixH; omega)), TWr_same t7 (hD _ (by omega) (by omega)) (hD _ (by omega) (by omega)) (hw _ (by unfold NG; omega) (by omega)) (fun r c hr hcc => hw _ (by unfold NG ixR; omega) (by unfold ixR; omega)), TWr_same t8 (hD _ (by omega) (by omega)) (hD _ (by omega) (by omega)) (hw _ (by unfold NG; omega) (by omega)) (fun r c hr hcc => hw _ (by unfold NG ixC; omega) (by unfold ixC; omega)), ?_, ?_, ?_, ?_⟩
  · rw [hc 8 (by decide) (by decide), hw 113 (by unfold NG; omega) (by omega)]; exact c1
  · rw [hc 9 (by decide) (by decide), hw 114 (by unfold NG; omega) (by omega)]; exact c2
  · rw [hc 10 (by decide) (by decide), hw 0 (by unfold NG; omega) (by omega)]; exact c3
  · rw [hc 11 (by decide) (by decide), hw 1 (by unfold NG; omega) (by omega)]; exact c4
theorem V_fsoE {s : mG} {n g : Nat} (h1 : s.1 2 1 = cn 11) (h3 : s.1 2 3 = cn n) (hn : n ≤ 12) (hg : g < n) : pk (F_X2_forgetSeenOf 1 (cn g) s) (fun u => (∀ j, j ≠ 3 → u.1 j = s.1 j) ∧ (∀ k, (k < g * 11 + 5 ∨ g * 11 + 11 ≤ k) → u.1 3 k = s.1 3 k) ∧ ∀ c, 5 ≤ c → c < 11 → u.1 3 (g * 11 + c) = ci (-1)) := by
  unfold F_X2_forgetSeenOf F_X2_forgetSeenOf_L2
  refine pk_whl (fun v => v.1 = cn g ∧ ∃ i, i ≤ 6 ∧ v.2.1 = cn i ∧ (∀ j, j ≠ 3 → v.2.2.1 j = s.1 j) ∧ (∀ k, (k < g * 11 + 5 ∨ g * 11 + 11 ≤ k) → v.2.2.1 3 k = s.1 3 k) ∧ ∀ c, 5 ≤ c → c < 5 + i → v.2.2.1 3 (g * 11 + c) = ci (-1)) ⟨rfl, 0, by omega, rfl, fun _ _ => rfl, fun _ _ => rfl, fun c h1 h2 => absurd h2 (by omega)⟩ (fun v hv => ?_)
  obtain ⟨x1, x2, u⟩ := v
  obtain ⟨e1, i, hi, e2, r, k0, k1⟩ := hv
  have e1 : x1 = cn g := e1
  have e2 : x2 = cn i := e2
  have r : ∀ j, j ≠ 3 → u.1 j = s.1 j := r
  have k0 : ∀ k, (k < g * 11 + 5 ∨ g * 11 + 11 ≤ k) → u.1 3 k = s.1 3 k := k0
  have k1 : ∀ c, 5 ≤ c → c < 5 + i → u.1 3 (g * 11 + c) = ci (-1) := k1
  subst e1; subst e2
  unfold F_X2_forgetSeenOf_B2
  dsimp only
  rw [show c8 6 = cn 6 by decide]
  by_cases h6 : 6 ≤ i
  · rw [if_pos ((cn_le (a := 6) (by decide) (by omega)).mpr h6)]
    exact pk_some ⟨r, k0, fun c h1 h2 => k1 c h1 (by omega)⟩
  · rw [if_neg (fun q => h6 ((cn_le (a := 6) (by decide) (by omega)).mp q)), show (1 + 1 : Nat) = 2 from rfl, show ci 5 + cn i = cn (5 + i) from cn_add (a := 5) (by omega), V_putG (c := 5 + i) (by rw [r 2 (by decide)]; exact h1) (by rw [r 2 (by decide)]; exact h3) hn hg (by omega) rfl, b1_some]
    have mc : ∀ k, k ≠ g * 11 + (5 + i) → mu u.1 3 (g * 11 + (5 + i)) (ci (-1)) 3 k = u.1 3 k := fun k hk => mu_cell (Or.inr hk)
    refine pk_some (show _ ∧ _ from ⟨rfl, i + 1, by omega, cnu (by omega), fun j hj => (mu_rowQ hj).trans (r j hj), fun k hk => (mc k (by omega)).trans (k0 k hk), fun c h1 h2 => ?_⟩)
    by_cases e : c = 5 + i
    · subst e; exact mu_sameQ
    · exact (mc (g * 11 + c) (by omega)).trans (k1 c h1 (by omega))
/-- the cells of a new guest -/
def gvN (x y : Int32) (c : Nat) : Int32 := if c = 0 then x else if c = 1 then y else if c = 2 then ci 0 else if c = 3 then ci (-1) else if c = 4 then ci 0 else ci (-1)
theorem lt11 {c : Nat} (h : c < 11) : c = 0 ∨ c = 1 ∨ c = 2 ∨ c = 3 ∨ c = 4 ∨ (5 ≤ c ∧ c < 11) := by omega
theorem gvN_5 {x y : Int32} {c : Nat} (h : 5 ≤ c) : gvN x y c = ci (-1) := by
  unfold gvN
  rw [if_neg (by omega), if_neg (by omega), if_neg (by omega), if_neg (by omega), if_neg (by omega)]
theorem V_guestE {a : mG} {x y : Int32} {n : Nat} (h0 : a.1 2 0 = cn 12) (h1 : a.1 2 1 = cn 11) (h3 : a.1 2 3 = cn n) (hn : n < 12) : pk (F_X2_addGuest 1 x y a) (fun τ => τ.1 = cn n ∧ (∀ j, j ≠ 2 → j ≠ 3 → τ.2.1 j = a.1 j) ∧ (∀ c, c ≠ 3 → τ.2.1 2 c = a.1 2 c) ∧ τ.2.1 2 3 = cn (n + 1) ∧ (∀ k, k < n * 11 → τ.2.1 3 k = a.1 3 k) ∧ ∀ c, c < 11 → τ.2.1 3 (n * 11 + c) = gvN x y c) := by
  unfold F_X2_addGuest
  rw [show (1 + 1 : Nat) = 2 from rfl, V_add h0 h3 (by decide) hn, b2_some]
  have PUT : ∀ (D : Nat → Nat → Int32) (c : Nat) (cc v : Int32), cc = cn c → D 2 = mu a.1 2 3 (cn (n + 1)) 2 → c < 11 → F_X10_put 2 (cn n) cc v (D, a.2) = some (mu D 3 (n * 11 + c) v, a.2) := fun D c cc v e d hc =>
    V_put (t := 2) (s := (D, a.2)) (r := n) (c := c) (n := n + 1) (W := 11) rfl e (by show D 2 1 = _; rw [d, mu_cell (by decide)]; exact h1) (by show D 2 3 = _; rw [d, mu_same]) (by omega) hc (by rw [al_G]; omega) (by omega)
  rw [PUT _ 0 (ci 0) x rfl rfl (by decide), b1_some, PUT _ 1 (ci 1) y rfl (mu_row (by decide)) (by decide), b1_some, PUT _ 2 (ci 2) (ci 0) rfl ((mu_row (by decide)).trans (mu_row (by decide))) (by decide), b1_some, PUT _ 3 (ci 3) (ci (-1)) rfl ((mu_row (by decide)).trans ((mu_row (by decide)).trans (mu_row (by decide)))) (by decide), b1_some, PUT _ 4 (ci 4) (ci 0) rfl ((mu_row (by decide)).trans ((mu_row (by decide)).trans ((mu_row (by decide)).trans (mu_row (by decide))))) (by decide), b1_some]
  have eD : mu (mu (mu (mu (mu (mu a.1 2 3 (cn (n + 1))) 3 (n * 11 + 0) x) 3 (n * 11 + 1) y) 3 (n * 11 + 2) (ci 0)) 3 (n * 11 + 3) (ci (-1))) 3 (n * 11 + 4) (ci 0) = BL (mu a.1 2 3 (cn (n + 1))) 3 (n * 11) [x, y, ci 0, ci (-1), ci 0] := rfl
  rw [eD]
  have r2 : BL (mu a.1 2 3 (cn (n + 1))) 3 (n * 11) [x, y, ci 0, ci (-1), ci 0] 2 = mu a.1 2 3 (cn (n + 1)) 2 := BL_row (by decide) _ _ _
  refine pk_b1 (V_fsoE (n := n + 1) (g := n) (by show BL _ 3 _ _ 2 1 = _; rw [r2, mu_cell (by decide)]; exact h1) (by show BL _ 3 _ _ 2 3 = _; rw [r2, mu_same]) (by omega) (by omega)) (fun u q => ?_)
  obtain ⟨q1, q2, q3⟩ := q
  have q1 : ∀ j, j ≠ 3 → u.1 j = BL (mu a.1 2 3 (cn (n + 1))) 3 (n * 11) [x, y, ci 0, ci (-1), ci 0] j := q1
  have q2 : ∀ k, (k < n * 11 + 5 ∨ n * 11 + 11 ≤ k) → u.1 3 k = BL (mu a.1 2 3 (cn (n + 1))) 3 (n * 11) [x, y, ci 0, ci (-1), ci 0] 3 k := q2
  refine pk_some ⟨rfl, fun j h1 h2 => ?_, fun c hc => ?_, ?_, fun k hk => ?_, fun c hc => ?_⟩
  · show u.1 j = _
    rw [q1 j h2, BL_row h2, mu_row h1]
  · show u.1 2 c = _
    rw [q1 2 (by decide), r2, mu_cell (Or.inr hc)]
  · show u.1 2 3 = _
    rw [q1 2 (by decide), r2, mu_same]
  · show u.1 3 k = _
    rw [q2 k (by omega), BL_out _ _ _ (Or.inl hk)]
    exact congrFun (mu_row (by decide)) k
  · show u.1 3 (n * 11 + c) = _
    rcases lt11 hc with e | e | e | e | e | e
    · subst e; rw [q2 _ (by omega), BL_in _ _ _ (show 0 < 5 by decide)]; rfl
    · subst e; rw [q2 _ (by omega), BL_in _ _ _ (show 1 < 5 by decide)]; rfl
    · subst e; rw [q2 _ (by omega), BL_in _ _ _ (show 2 < 5 by decide)]; rfl
    · subst e; rw [q2 _ (by omega), BL_in _ _ _ (show 3 < 5 by decide)]; rfl
    · subst e; rw [q2 _ (by omega), BL_in _ _ _ (show 4 < 5 by decide)]; rfl
    · rw [q3 c e.1 e.2, gvN_5 e.1]
theorem V_guestRE {b : mG} {n : Nat} (h : b.1 89 112 = cn n) (hn : n < 12) : pk (F_X12_guest_L94 (cn n) (ci 0) b) (fun τ => τ.1 = cn n ∧ (∀ j, j ≠ 88 → j ≠ 89 → τ.2.1 j = b.1 j) ∧ (∀ c, c ≠ 3 → τ.2.1 88 c = b.1 88 c) ∧ τ.2.1 88 3 = ci 0 ∧ τ.2.1 89 = fun k => if k = 112 then cn (n + 1) else ovr (39 + 6 * n) 6 (fun _ => ci (-1)) (b.1 89) k) := by
  unfold F_X12_guest_L94
  refine pk_whl (fun v => v.1 = cn n ∧ ∃ i, i ≤ 6 ∧ v.2.1 = cn i ∧ (∀ j, j ≠ 89 → v.2.2.1 j = b.1 j) ∧ v.2.2.1 89 = ovr (39 + 6 * n) i (fun _ => ci (-1)) (b.1 89)) ⟨rfl, 0, by omega, rfl, fun _ _ => rfl, ovr_0.symm⟩ (fun v hv => ?_)
  obtain ⟨x3, x4, u⟩ := v
  obtain ⟨e1, i, hi, e2, r, e89⟩ := hv
  have e1 : x3 = cn n := e1
  have e2 : x4 = cn i := e2
  have r : ∀ j, j ≠ 89 → u.1 j = b.1 j := r
  have e89 : u.1 89 = ovr (39 + 6 * n) i (fun _ => ci (-1)) (b.1 89) := e89
  subst e1; subst e2
  unfold F_X12_guest_B94 F_X12_forgets
  dsimp only
  by_cases h6 : 6 ≤ i
  · have ei : i = 6 := by omega
    subst ei
    have u112 : u.1 89 112 = cn n := by
      rw [e89]
      unfold ovr
      rw [if_neg (by omega)]; exact h
    rw [if_pos (show c8 6 ≤ cn 6 by decide), u112, cnu (by omega), b1_some]
    refine pk_some (show _ ∧ _ from ⟨rfl, fun j h1 h2 => ?_, fun c hc => ?_, (show mu (mu u.1 89 112 (cn (n + 1))) 88 3 (ci 0) 88 3 = ci 0 from mu_same), ?_⟩)
    · dsimp only
      rw [mu_row h1, mu_row h2]; exact r j h2
    · dsimp only
      rw [mu_cell (Or.inr hc), mu_row (by decide), r 88 (by decide)]
    · dsimp only
      rw [mu_row (by decide)]
      funext k
      rw [mu_ap, e89]
      by_cases e : k = 112
      · rw [if_pos ⟨rfl, e⟩, if_pos e]
      · rw [if_neg (fun q => e q.2), if_neg e]
  · rw [if_neg (show ¬ c8 6 ≤ cn i from fun q => h6 ((cn_le (a := 6) (by decide) (by omega)).mp q)), show (c8 6) * cn n = cn (6 * n) from cn_mul (a := 6) (by omega) (by omega) (by omega), show c8 39 + cn (6 * n) = cn (39 + 6 * n) from cn_add (a := 39) (by omega), cn_add (by omega), cn_nat (n := 39 + 6 * n + i) (by omega), cnu (by omega)]
    refine pk_nn (pk_some (show _ ∧ _ from ⟨rfl, i + 1, by omega, rfl, fun j hj => (mu_row hj).trans (r j hj), ovr_up e89 rfl⟩))
theorem R_guest {a b : mG} {x y : Int32} (h : SIM a b) : rel (F_X11_guest x y a) (F_X12_guest x y b) (fun τ υ => τ.1 = υ.1 ∧ SIM τ.2 υ.2) := by
  obtain ⟨⟨n, nb, nc, hn, hnb, e2, e4, e8, H, L, V⟩, _⟩ := id h
  have h112 := SIM_n H e2
  unfold F_X11_guest F_X12_guest F_X11_guest_32 F_X12_guest_31
  rw [V_within, F_isIn, b1_some, b1_some]
  by_cases h1 : wi x (ci 0) (ci 3) = 0
  · rw [if_pos h1, if_pos h1]; exact rel_some ⟨rfl, h⟩
  rw [if_neg h1, if_neg h1, V_within, F_isIn, b1_some, b1_some]
  by_cases h2 : wi y (ci 0) (c8 99) = 0
  · rw [if_pos h2, if_pos h2]; exact rel_some ⟨rfl, h⟩
  rw [if_neg h2, if_neg h2, V_full H.1.1 e2 (by omega) (by decide), b1_some, h112]
  by_cases kf : n < 12
  · rw [if_pos kf, if_pos c0e0, if_neg (fun q => absurd ((cn_inj (b := 12) (by omega) (by decide)).mp (q.trans (by decide))) (by omega)), show c8 119 + cn n = cn (119 + n) from cn_add (a := 119) (by omega), show c16 131 + cn n = cn (131 + n) from cn_add (a := 131) (by omega), show ci 3 + cn n = cn (3 + n) from cn_add (a := 3) (by omega), show c8 15 + cn n = cn (15 + n) from cn_add (a := 15) (by omega), show c8 27 + cn n = cn (27 + n) from cn_add (a := 27) (by omega), cn_nat (n := 119 + n) (by omega), cn_nat (n := 131 + n) (by omega), cn_nat (n := 3 + n) (by omega), cn_nat (n := 15 + n) (by omega), cn_nat (n := 27 + n) (by omega)]
    unfold F_X5_forget
    dsimp only
    rw [b1_some]
    refine rel_rg (rel_rg (rel_rg (rel_rg (rel_rg ?_))))
    have f2 : ((mu a.1 35 1 (ci 0), a.2) : mG).1 2 = a.1 2 := mu_rowQ (by decide)
    intro τ hτ υ hυ
    obtain ⟨v, u, hu, hτ⟩ := m_b2 hτ
    have hτ := Option.some.inj hτ
    subst hτ
    obtain ⟨q1, q2, q3, q4, q5, q6⟩ := V_guestE (n := n) (by rw [f2]; exact H.1.1) (by rw [f2]; exact H.1.2.1) (by rw [f2]; exact e2) kf (v, u) hu
    have q1 : v = cn n := q1
    have q2 : ∀ j, j ≠ 2 → j ≠ 3 → u.1 j = mu a.1 35 1 (ci 0) j := q2
    have q3 : ∀ c, c ≠ 3 → u.1 2 c = mu a.1 35 1 (ci 0) 2 c := q3
    have q4 : u.1 2 3 = cn (n + 1) := q4
    have q5 : ∀ k, k < n * 11 → u.1 3 k = mu a.1 35 1 (ci 0) 3 k := q5
    have q6 : ∀ c, c < 11 → u.1 3 (n * 11 + c) = gvN x y c := q6
    obtain ⟨E, hE⟩ : ∃ E, E = mu (mu (mu (mu (mu b.1 89 (119 + n) x) 89 (131 + n) y) 89 (3 + n) (ci 0)) 89 (15 + n) (ci (-1))) 89 (27 + n) (ci 0) := ⟨_, rfl⟩
    rw [← hE] at hυ
    have e112 : ((E, b.2) : mG).1 89 112 = cn n := by
      show E 89 112 = _
      rw [hE, mu_cell (Or.inr (by omega)), mu_cell (Or.inr (by omega)), mu_cell (Or.inr (by omega)), mu_cell (Or.inr (by omega)), mu_cell (Or.inr (by omega))]
      exact h112
    obtain ⟨p1, p2, p3, p4, p5⟩ := V_guestRE e112 kf υ hυ
    have p5 : υ.2.1 89 = fun k => if k = 112 then cn (n + 1) else ovr (39 + 6 * n) 6 (fun _ => ci (-1)) (E 89) k := p5
    have rE : ∀ j, j ≠ 89 → E j = b.1 j := fun j hj => by rw [hE, mu_row hj, mu_row hj, mu_row hj, mu_row hj, mu_row hj]
    -- a cell that is no new one
    have old : ∀ k, k ≠ 112 → k ≠ 119 + n → k ≠ 131 + n → k ≠ 3 + n → k ≠ 15 + n → k ≠ 27 + n → (k < 39 + 6 * n ∨ 39 + 6 * n + 6 ≤ k) → υ.2.1 89 k = b.1 89 k := fun k a1 a2 a3 a4 a5 a6 a7 => by
      rw [p5]
      dsimp only
      rw [if_neg a1]
      unfold ovr
      rw [if_neg (by omega), hE, mu_cell (Or.inr a6), mu_cell (Or.inr a5), mu_cell (Or.inr a4), mu_cell (Or.inr a3), mu_cell (Or.inr a2)]
    have ev : ∀ k, k ≠ 112 → (k < 39 + 6 * n ∨ 39 + 6 * n + 6 ≤ k) → υ.2.1 89 k = E 89 k := fun k a1 a2 => by
      rw [p5]
      dsimp only
      rw [if_neg a1]
      unfold ovr
      rw [if_neg (by omega)]
    have new : ∀ c, c < 11 → υ.2.1 89 (ixG n c) = gvN x y c := fun c hc => by
      rcases lt11 hc with e | e | e | e | e | e
      · subst e
        rw [show ixG n 0 = 119 + n from rfl, ev _ (by omega) (by omega), hE, mu_cell (Or.inr (by omega)), mu_cell (Or.inr (by omega)), mu_cell (Or.inr (by omega)), mu_cell (Or.inr (by omega)), mu_same]; rfl
      · subst e
        rw [show ixG n 1 = 131 + n from rfl, ev _ (by omega) (by omega), hE, mu_cell (Or.inr (by omega)), mu_cell (Or.inr (by omega)), mu_cell (Or.inr (by omega)), mu_same]; rfl
      · subst e
        rw [show ixG n 2 = 3 + n from rfl, ev _ (by omega) (by omega), hE, mu_cell (Or.inr (by omega)), mu_cell (Or.inr (by omega)), mu_same]; rfl
      · subst e
        rw [show ixG n 3 = 15 + n from rfl, ev _ (by omega) (by omega), hE, mu_cell (Or.inr (by omega)), mu_same]; rfl
      · subst e
        rw [show ixG n 4 = 27 + n from rfl, ev _ (by omega) (by omega), hE, mu_same]; rfl
      · have ei : ixG n c = 39 + 6 * n + (c - 5) := by
          rcases ixG_cases (r := n) hc with q | q | q | q | q | q <;> omega
        rw [ei, gvN_5 e.1, p5]
        dsimp only
        rw [if_neg (by omega)]
        unfold ovr
        rw [if_pos (by omega)]
    have Hn : HSr 1 u.1 (υ.2.1 89) := by
      refine HSr_othN (D := a.1) (w := b.1 89) H ?_ (fun j h1 h2 => (q2 j (by omega) (by omega)).trans (mu_row (by omega))) (fun c _ _ => congrFun ((q2 1 (by decide) (by decide)).trans (mu_row (by decide))) c) (fun k hk e => ?_)
      · refine TWr_add (n := n) H.1 e2 kf (by decide) (fun c hc => (q3 c hc).trans (congrFun (mu_row (by decide)) c)) q4 (fun k hk => (q5 k hk).trans (congrFun (mu_row (by decide)) k)) ?_ (fun r c hr hc => ?_) (fun c hc => (q6 c hc).trans (new c hc).symm)
        · rw [p5]
          exact if_pos rfl
        · have i1 : ixG r c ≠ 112 := by have := ixG_rng (r := r) (by omega) hc; omega
          rcases ixG_cases (r := r) hc with q | q | q | q | q | q <;> exact old _ i1 (by omega) (by omega) (by omega) (by omega) (by omega) (by omega)
      · unfold NG at hk
        exact old k e (by omega) (by omega) (by omega) (by omega) (by omega) (by omega)
    have u4 : u.1 4 = a.1 4 := (q2 4 (by decide) (by decide)).trans (mu_row (by decide))
    have u8 : u.1 8 = a.1 8 := (q2 8 (by decide) (by decide)).trans (mu_row (by decide))
    refine ⟨q1.trans p1.symm, SIM_forget h (u := u) (t := υ.2) (n := n + 1) (by omega) hnb q4 (by rw [u4]; exact e4) (by rw [u8]; exact e8) Hn (LTy_same L (fun k hk => old k (by omega) (by omega) (by omega) (by omega) (by omega) (by omega) (by omega))) ⟨?_, ?_, fun i hi => ?_⟩ ((congrFun (q2 35 (by decide) (by decide)) 1).trans mu_same) ((congrFun (q2 35 (by decide) (by decide)) 2).trans (mu_cell (by decide))) (fun j h1 h2 => (q2 j (by omega) (by omega)).trans (mu_row (by omega))) p4 ((congrFun (q2 0 (by decide) (by decide)) 2).trans (congrFun (mu_row (by decide)) 2)) (fun j h1 h2 => (q2 j (by omega) (by omega)).trans (mu_row (by omega))) ((p3 4 (by decide)).trans (congrFun (rE 88 (by decide)) 4)) ((p2 90 (by decide) (by decide)).trans (rE 90 (by decide)))⟩
    · rw [old 0 (by omega) (by omega) (by omega) (by omega) (by omega) (by omega) (by omega)]; exact V.1
    · rw [old 0 (by omega) (by omega) (by omega) (by omega) (by omega) (by omega) (by omega)]; exact V.2.1
    · by_cases e : i = n
      · subst e
        have n2 := new 2 (by decide)
        have n3 := new 3 (by decide)
        have n4 := new 4 (by decide)
        unfold VIg
        rw [show υ.2.1 89 (3 + i) = ci 0 from n2, show υ.2.1 89 (15 + i) = ci (-1) from n3, show υ.2.1 89 (27 + i) = ci 0 from n4]
        exact ⟨Or.inl rfl, fun _ => rfl, by decide, by decide⟩
      · have Vi := V.2.2 i (by omega)
        unfold VIg at Vi ⊢
        rw [old (3 + i) (by omega) (by omega) (by omega) (by omega) (by omega) (by omega) (by omega), old (15 + i) (by omega) (by omega) (by omega) (by omega) (by omega) (by omega) (by omega), old (27 + i) (by omega) (by omega) (by omega) (by omega) (by omega) (by omega) (by omega)]
        exact Vi
  · rw [if_neg kf, if_neg c1n0, if_pos (show cn n = c8 12 by rw [show n = 12 by omega]; decide)]
    exact rel_some ⟨rfl, h⟩
theorem R_undo {a b : mG} (h : SIM a b) : rel (F_X11_undo a) (F_X12_undo b) (fun τ υ => τ.1 = υ.1 ∧ SIM τ.2 υ.2) := by
  obtain ⟨⟨n, nb, nc, hn, hnb, e2, e4, e8, H, L, V⟩, P, I⟩ := id h
  obtain ⟨c, t, n1, nb1, bk, hc, ht, hn1, hnb1, p1, p2, p3, p4, p5, hbk, hbk2, hm, hP⟩ := P
  have en : n1 = n := (cn_inj (by omega) (by omega)).mp (p4.symm.trans e2)
  subst en
  have enb : nb1 = nb := (cn_inj (by omega) (by omega)).mp (p5.symm.trans e4)
  subst enb
  unfold F_X11_undo
  by_cases h0 : c = 0
  · subst h0
    have e : F_X5_giveBack 1 a = some (ci 0, a) := by
      unfold F_X5_giveBack F_X5_giveBack_30
      dsimp only
      rw [p2, rm_dn t ht, V_moment rfl (Nat.mod_lt _ (by decide)), bo_some, if_pos (p1.trans (by decide))]
    rw [e, b2_some, if_pos (Or.inl c0e0)]
    intro τ hτ υ hυ
    have hτ := Option.some.inj hτ
    subst hτ
    rcases E_undo hc p3 υ hυ with ⟨_, q⟩ | ⟨q, _⟩
    · subst q; exact ⟨rfl, h⟩
    · exact absurd q (by omega)
  · intro τ hτ υ hυ
    obtain ⟨v, u, hu, hτ⟩ := m_b2 hτ
    have hτ := (m_gp hτ).2
    have hτ := Option.some.inj hτ
    subst hτ
    have q0 := (hP (c - 1) (by omega)).1
    rw [show (t + 6 - c + (c - 1)) % 6 = (t + 5) % 6 by omega] at q0
    have m1 : a.1 (37 + 3 * ((t + 5) % 6)) 1 = cn (bk (c - 1)) := q0.1.trans (hbk (c - 1) (by omega)).2
    obtain ⟨g1, g2⟩ := V_giveBackE hc (by omega) ht hn hnb (hbk (c - 1) (by omega)).1 p1 p2 H.1.1 H.1.2.1 e2 e4 m1 q0.2.2.2.1 (v, u) hu
    have g1 : v = ci 1 := g1
    have g2 : GBo ((t + 5) % 6) c n1 (bk (c - 1)) a u := g2
    rcases E_undo hc p3 υ hυ with ⟨q, _⟩ | ⟨_, r1, r2, r3, r4, r5⟩
    · exact absurd q h0
    · obtain ⟨w1, w2, w3⟩ := PSr_undo (w88' := υ.2.1 88) H hc (by omega) ht hn hnb e2 e4 hbk hbk2 hm hP g2 r4
      rw [← r5] at w1 w3
      have lo : ∀ j, 5 ≤ j → j ≠ 35 → u.1 j = a.1 j := fun j h1 h2 => g2.1 j (by omega) (by omega) (by omega) (by omega) h2
      have hb1 := (hbk (c - 1) (by omega)).1
      refine ⟨g1.trans r1.symm, ⟨⟨n1, bk (c - 1), nc, hn, by omega, (g2.2.1 3).trans e2, g2.2.2.2.2.1, by rw [show ((v, u) : Int32 × mG).2.1 8 = a.1 8 from lo 8 (by decide) (by decide)]; exact e8, w1, ?_, w3⟩, ?_, ?_⟩⟩
      · refine LTy_same L (fun k hk => ?_)
        rw [r5]
        unfold ovr
        rw [if_neg (by omega)]
      · rw [r2 91 (by decide) (by decide)]; exact w2
      · exact IMG_same I (congrFun (g2.1 0 (by decide) (by decide) (by decide) (by decide) (by decide)) 2) (fun j h1 h2 => lo j (by omega) (by omega)) (r3 4 (by decide)) (r2 90 (by decide) (by decide))
end
end
/-! 5ze.image -/
section
noncomputable section
/-! THE IMAGE, on both sides -/
theorem TWr_copy {t a W M cnt n : Nat} {ix : Nat → Nat → Nat} {s u : mG} {w : Nat → Int32} (h : TWr a W M cnt ix s.1 w) (h3 : s.1 a 3 = cn n) (hM : M < 2147483648) (sh : TS t W M s) (c : CPo t a (n * W) s u) : TWr t W M cnt ix u.1 w := by
  obtain ⟨h0, h1, m, hm, g3, gc, hx⟩ := h
  obtain ⟨_, c2, c3, c4, c5, c6⟩ := c
  refine ⟨(c3 0 (by decide)).trans sh.1, (c3 1 (by decide)).trans sh.2.1, m, hm, c4.trans g3, gc, fun r k hr hk => ?_⟩
  have e : n = m ∨ ¬ n < 2147483648 := by
    by_cases q : n < 2147483648
    · exact Or.inl ((cn_inj q (by omega)).mp (h3.symm.trans g3))
    · exact Or.inr q
  have hn : m ≤ n := by
    rcases e with e | e
    · omega
    · omega
  have hrw : r * W + k < n * W := by
    have h4 : (r + 1) * W ≤ n * W := Nat.mul_le_mul_right W (by omega)
    rw [Nat.add_mul, Nat.one_mul] at h4
    omega
  rw [c5 _ hrw]
  exact hx r k hr hk
theorem LWr_copy {t a n : Nat} {s u : mG} {w : Nat → Int32} (h : LWr a s.1 w) (h3 : s.1 a 3 = cn n) (hn : n ≤ 16) (sh : TS t 4 16 s) (c : CPo t a (n * 4) s u) : LWr t u.1 w := by
  obtain ⟨h0, h1, m, hm, g3, gc, hx⟩ := h
  obtain ⟨_, c2, c3, c4, c5, c6⟩ := c
  have e : m = n := (cn_inj (by omega) (by omega)).mp (g3.symm.trans h3)
  subst e
  refine ⟨(c3 0 (by decide)).trans sh.1, (c3 1 (by decide)).trans sh.2.1, m, hm, c4.trans g3, gc, fun r hr => ?_⟩
  rw [c5 (r * 4 + 1) (by omega), c5 (r * 4 + 2) (by omega), c5 (r * 4 + 3) (by omega), c5 (r * 4 + 0) (by omega)]
  exact hx r hr
theorem CWr_copy {t a n : Nat} {s u : mG} {w : Nat → Int32} (h : CWr a s.1 w) (h3 : s.1 a 3 = cn n) (hn : n ≤ 400) (sh : TS t 1 400 s) (c : CPo t a (n * 1) s u) : CWr t u.1 w := by
  obtain ⟨h0, h1, m, hm, g3, hx⟩ := h
  obtain ⟨_, c2, c3, c4, c5, c6⟩ := c
  have e : m = n := (cn_inj (by omega) (by omega)).mp (g3.symm.trans h3)
  subst e
  refine ⟨(c3 0 (by decide)).trans sh.1, (c3 1 (by decide)).trans sh.2.1, m, hm, c4.trans g3, fun j hj => ?_⟩
  rw [c5 j (by omega)]
  exact hx j hj
/-- the shapes of a house's tables -/
def SHh (h : Nat) (s : mG) : Prop := TS (h + 1) 11 12 s ∧ TS (h + 3) 5 150 s ∧ TS (h + 5) 4 16 s ∧ TS (h + 7) 1 400 s ∧ TS (h + 9) 2 6 s ∧ TS (h + 11) 4 12 s ∧ TS (h + 13) 4 8 s ∧ TS (h + 15) 3 8 s
def ALh (h : Nat) : Prop := m_alen (h + 1 + 1) = 132 ∧ m_alen (h + 3 + 1) = 750 ∧ m_alen (h + 5 + 1) = 64 ∧ m_alen (h + 7 + 1) = 400 ∧ m_alen (h + 9 + 1) = 12 ∧ m_alen (h + 11 + 1) = 48 ∧ m_alen (h + 13 + 1) = 32 ∧ m_alen (h + 15 + 1) = 24
theorem ALh_1 : ALh 1 := by unfold ALh; decide +kernel
theorem ALh_18 : ALh 18 := by unfold ALh; decide +kernel
theorem TWr_T {t W M cnt : Nat} {ix : Nat → Nat → Nat} {s : mG} {w : Nat → Int32} (h : TWr t W M cnt ix s.1 w) : TS t W M s := by
  obtain ⟨h0, h1, m, hm, g3, _⟩ := h
  exact ⟨h0, h1, m, hm, g3⟩
theorem HSr_SH {h : Nat} {s : mG} {w : Nat → Int32} (H : HSr h s.1 w) : SHh h s := by
  obtain ⟨t1, t2, ⟨l0, l1, m, hm, l3, _⟩, ⟨c0, c1, m2, hm2, c3, _⟩, t5, t6, t7, t8, _⟩ := H
  exact ⟨TWr_T t1, TWr_T t2, ⟨l0, l1, m, hm, l3⟩, ⟨c0, c1, m2, hm2, c3⟩, TWr_T t5, TWr_T t6, TWr_T t7, TWr_T t8⟩
theorem V_copyS {t a W M n : Nat} {s : mG} (hd : a ≠ t ∧ a + 1 ≠ t ∧ a ≠ t + 1) (sh : TS t W M s) (h3 : s.1 a 3 = cn n) (hn : n ≤ M) (hM : M < 2147483648) (hW : W < 2147483648) (l1 : M * W ≤ m_alen (t + 1)) (l2 : M * W ≤ m_alen (a + 1)) : pk (F_X10_copyFrom t a s) (CPo t a (n * W) s) :=
  V_copy hd sh.1 h3 sh.2.1 hn hM (Nat.le_trans (Nat.mul_le_mul_right W hn) l1) (Nat.le_trans (Nat.mul_le_mul_right W hn) l2) hW
/-- a whole house copied -/
theorem V_houseH {h a : Nat} {s : mG} {w : Nat → Int32} (hd : h + 17 ≤ a ∨ a + 17 ≤ h) (lh : ALh h) (la : ALh a) (H : HSr a s.1 w) (sh : SHh h s) : pk (F_X2_copyFrom h a s) (fun u => HSr h u.1 w ∧ (∀ i, (i < h ∨ h + 16 < i) → u.1 i = s.1 i) ∧ u.1 (h + 1) 3 = s.1 (a + 1) 3 ∧ u.1 (h + 3) 3 = s.1 (a + 3) 3 ∧ u.1 (h + 7) 3 = s.1 (a + 7) 3) := by
  obtain ⟨t1, t2, t3, t4, t5, t6, t7, t8, d1, d2, d3, d4⟩ := H
  obtain ⟨s1, s2, s3, s4, s5, s6, s7, s8⟩ := sh
  obtain ⟨k1, k2, k3, k4, k5, k6, k7, k8⟩ := lh
  obtain ⟨j1, j2, j3, j4, j5, j6, j7, j8⟩ := la
  obtain ⟨_, _, n1, hn1, f1, _⟩ := id t1
  obtain ⟨_, _, n2, hn2, f2, _⟩ := id t2
  obtain ⟨_, _, n3, hn3, f3, _⟩ := id t3
  obtain ⟨_, _, n4, hn4, f4, _⟩ := id t4
  obtain ⟨_, _, n5, hn5, f5, _⟩ := id t5
  obtain ⟨_, _, n6, hn6, f6, _⟩ := id t6
  obtain ⟨_, _, n7, hn7, f7, _⟩ := id t7
  obtain ⟨_, _, n8, hn8, f8, _⟩ := id t8
  unfold F_X2_copyFrom
  refine pk_b1 (V_copyS (n := n1) (by omega) s1 f1 hn1 (by decide) (by decide) (by rw [k1]; decide) (by rw [j1]; decide)) (fun u1 q1 => ?_)
  have r1 : ∀ i, i ≠ h + 1 → i ≠ h + 2 → u1.1 i = s.1 i := fun i x y => q1.2.1 i x (by omega)
  have T1 := TWr_copy t1 f1 (by decide) s1 q1
  refine pk_b1 (V_copyS (n := n2) (by omega) (TS_row s2 (r1 _ (by omega) (by omega))) (by rw [r1 _ (by omega) (by omega)]; exact f2) hn2 (by decide) (by decide) (by rw [k2]; decide) (by rw [j2]; decide)) (fun u2 q2 => ?_)
  have r2 : ∀ i, i ≠ h + 1 → i ≠ h + 2 → i ≠ h + 3 → i ≠ h + 4 → u2.1 i = s.1 i := fun i a1 a2 a3 a4 => (q2.2.1 i a3 (by omega)).trans (r1 i a1 a2)
  have T2 := TWr_copy (TWr_same t2 (r1 _ (by omega) (by omega)) (r1 _ (by omega) (by omega)) rfl (fun _ _ _ _ => rfl)) (by rw [r1 _ (by omega) (by omega)]; exact f2) (by decide) (TS_row s2 (r1 _ (by omega) (by omega))) q2
  refine pk_b1 (V_copyS (n := n3) (by omega) (TS_row s3 (r2 _ (by omega) (by omega) (by omega) (by omega))) (by rw [r2 _ (by omega) (by omega) (by omega) (by omega)]; exact f3) hn3 (by decide) (by decide) (by rw [k3]; decide) (by rw [j3]; decide)) (fun u3 q3 => ?_)
  have r3 : ∀ i, (i < h + 1 ∨ h + 6 < i) → u3.1 i = s.1 i := fun i hi => (q3.2.1 i (by omega) (by omega)).trans (r2 i (by omega) (by omega) (by omega) (by omega))
  have T3 := LWr_copy (LWr_same t3 (r2 _ (by omega) (by omega) (by omega) (by omega)) (r2 _ (by omega) (by omega) (by omega) (by omega)) (fun _ _ => rfl)) (by rw [r2 _ (by omega) (by omega) (by omega) (by omega)]; exact f3) hn3 (TS_row s3 (r2 _ (by omega) (by omega) (by omega) (by omega))) q3
  refine pk_b1 (V_copyS (n := n4) (by omega) (TS_row s4 (r3 _ (by omega))) (by rw [r3 _ (by omega)]; exact f4) hn4 (by decide) (by decide) (by rw [k4]; decide) (by rw [j4]; decide)) (fun u4 q4 => ?_)
  have r4 : ∀ i, (i < h + 1 ∨ h + 8 < i) → u4.1 i = s.1 i := fun i hi => (q4.2.1 i (by omega) (by omega)).trans (r3 i (by omega))
  have T4 := CWr_copy (CWr_same t4 (r3 _ (by omega)) (r3 _ (by omega)) (fun _ _ _ => rfl)) (by rw [r3 _ (by omega)]; exact f4) hn4 (TS_row s4 (r3 _ (by omega))) q4
  refine pk_b1 (V_copyS (n := n5) (by omega) (TS_row s5 (r4 _ (by omega))) (by rw [r4 _ (by omega)]; exact f5) hn5 (by decide) (by decide) (by rw [k5]; decide) (by rw [j5]; decide)) (fun u5 q5 => ?_)
  have r5 : ∀ i, (i < h + 1 ∨ h + 10 < i) → u5.1 i = s.1 i := fun i hi => (q5.2.1 i (by omega) (by omega)).trans (r4 i (by omega))
  have T5 := TWr_copy (TWr_same t5 (r4 _ (by omega)) (r4 _ (by omega)) rfl (fun _ _ _ _ => rfl)) (by rw [r4 _ (by omega)]; exact f5) (by decide) (TS_row s5 (r4 _ (by omega))) q5
  refine pk_b1 (V_copyS (n := n6) (by omega) (TS_row s6 (r5 _ (by omega))) (by rw [r5 _ (by omega)]; exact f6) hn6 (by decide) (by decide) (by rw [k6]; decide) (by rw [j6]; decide)) (fun u6 q6 => ?_)
  have r6 : ∀ i, (i < h + 1 ∨ h + 12 < i) → u6.1 i = s.1 i := fun i hi => (q6.2.1 i (by omega) (by omega)).trans (r5 i (by omega))
  have T6 := TWr_copy (TWr_same t6 (r5 _ (by omega)) (r5 _ (by omega)) rfl (fun _ _ _ _ => rfl)) (by rw [r5 _ (by omega)]; exact f6) (by decide) (TS_row s6 (r5 _ (by omega))) q6
  refine pk_b1 (V_copyS (n := n7) (by omega) (TS_row s7 (r6 _ (by omega))) (by rw [r6 _ (by omega)]; exact f7) hn7 (by decide) (by decide) (by rw [k7]; decide) (by rw [j7]; decide)) (fun u7 q7 => ?_)
  have r7 : ∀ i, (i < h + 1 ∨ h + 14 < i) → u7.1 i = s.1 i := fun i hi => (q7.2.1 i (by omega) (by omega)).trans (r6 i (by omega))
  have T7 := TWr_copy (TWr_same t7 (r6 _ (by omega)) (r6 _ (by omega)) rfl (fun _ _ _ _ => rfl)) (by rw [r6 _ (by omega)]; exact f7) (by decide) (TS_row s7 (r6 _ (by omega))) q7
  refine pk_b1 (V_copyS (n := n8) (by omega) (TS_row s8 (r7 _ (by omega))) (by rw [r7 _ (by omega)]; exact f8) hn8 (by decide) (by decide) (by rw [k8]; decide) (by rw [j8]; decide)) (fun u8 q8 => ?_)
  have r8 : ∀ i, (i < h + 1 ∨ h + 16 < i) → u8.1 i = s.1 i := fun i hi => (q8.2.1 i (by omega) (by omega)).trans (r7 i (by omega))
  have T8 := TWr_copy (TWr_same t8 (r7 _ (by omega)) (r7 _ (by omega)) rfl (fun _ _ _ _ => rfl)) (by rw [r7 _ (by omega)]; exact f8) (by decide) (TS_row s8 (r7 _ (by omega))) q8
  -- what each of the later ones leaves
  have l7 : ∀ i, i < h + 15 → u8.1 i = u7.1 i := fun i hi => q8.2.1 i (by omega) (by omega)
  have l6 : ∀ i, i < h + 13 → u8.1 i = u6.1 i := fun i hi => (l7 i (by omega)).trans (q7.2.1 i (by omega) (by omega))
  have l5 : ∀ i, i < h + 11 → u8.1 i = u5.1 i := fun i hi => (l6 i (by omega)).trans (q6.2.1 i (by omega) (by omega))
  have l4 : ∀ i, i < h + 9 → u8.1 i = u4.1 i := fun i hi => (l5 i (by omega)).trans (q5.2.1 i (by omega) (by omega))
  have l3 : ∀ i, i < h + 7 → u8.1 i = u3.1 i := fun i hi => (l4 i (by omega)).trans (q4.2.1 i (by omega) (by omega))
  have l2 : ∀ i, i < h + 5 → u8.1 i = u2.1 i := fun i hi => (l3 i (by omega)).trans (q3.2.1 i (by omega) (by omega))
  have l1 : ∀ i, i < h + 3 → u8.1 i = u1.1 i := fun i hi => (l2 i (by omega)).trans (q2.2.1 i (by omega) (by omega))
  have ea : u8.1 a = s.1 a := r8 a (by omega)
  have hh : ∀ i, i ≠ h → ∀ x y z v, mu (mu (mu (mu u8.1 h 8 x) h 9 y) h 10 z) h 11 v i = u8.1 i := fun i hi x y z v => by
    rw [mu_row hi, mu_row hi, mu_row hi, mu_row hi]
  dsimp only
  have hah : a ≠ h := by omega
  simp only [mu_row hah, ea]
  refine pk_some (show _ ∧ _ from ⟨⟨?_, ?_, ?_, ?_, ?_, ?_, ?_, ?_, ?_, ?_, ?_, ?_⟩, fun i hi => ?_, ?_, ?_, ?_⟩)
  all_goals dsimp only
  · exact TWr_same T1 ((hh _ (by omega) _ _ _ _).trans (l1 _ (by omega))) ((hh _ (by omega) _ _ _ _).trans (l1 _ (by omega))) rfl (fun _ _ _ _ => rfl)
  · exact TWr_same T2 ((hh _ (by omega) _ _ _ _).trans (l2 _ (by omega))) ((hh _ (by omega) _ _ _ _).trans (l2 _ (by omega))) rfl (fun _ _ _ _ => rfl)
  · exact LWr_same T3 ((hh _ (by omega) _ _ _ _).trans (l3 _ (by omega))) ((hh _ (by omega) _ _ _ _).trans (l3 _ (by omega))) (fun _ _ => rfl)
  · exact CWr_same T4 ((hh _ (by omega) _ _ _ _).trans (l4 _ (by omega))) ((hh _ (by omega) _ _ _ _).trans (l4 _ (by omega))) (fun _ _ _ => rfl)
  · exact TWr_same T5 ((hh _ (by omega) _ _ _ _).trans (l5 _ (by omega))) ((hh _ (by omega) _ _ _ _).trans (l5 _ (by omega))) rfl (fun _ _ _ _ => rfl)
  · exact TWr_same T6 ((hh _ (by omega) _ _ _ _).trans (l6 _ (by omega))) ((hh _ (by omega) _ _ _ _).trans (l6 _ (by omega))) rfl (fun _ _ _ _ => rfl)
  · exact TWr_same T7 ((hh _ (by omega) _ _ _ _).trans (l7 _ (by omega))) ((hh _ (by omega) _ _ _ _).trans (l7 _ (by omega))) rfl (fun _ _ _ _ => rfl)
  · exact TWr_same T8 (hh _ (by omega) _ _ _ _) (hh _ (by omega) _ _ _ _) rfl (fun _ _ _ _ => rfl)
  · rw [mu_cell (by omega), mu_cell (by omega), mu_cell (by omega), mu_same]; exact d1
  · rw [mu_cell (by omega), mu_cell (by omega), mu_same]; exact d2
  · rw [mu_cell (by omega), mu_same]; exact d3
  · rw [mu_same]; exact d4
  · rw [hh i (by omega)]; exact r8 i (by omega)
  · rw [hh _ (by omega), l1 _ (by omega)]; exact q1.2.2.2.1
  · rw [hh _ (by omega), l2 _ (by omega), q2.2.2.2.1, r1 _ (by omega) (by omega)]
  · rw [hh _ (by omega), l4 _ (by omega), q4.2.2.2.1, r3 _ (by omega)]
/-- the reference gives its image back .. -/
theorem V_giveI {s : mG} : pk (F_X12_image_13 (ci 0) s) (fun τ => τ.1 = ci 1 ∧ τ.2.1 88 4 = ci 1 ∧ τ.2.1 88 3 = ci 0 ∧ (∀ c, c ≠ 3 → c ≠ 4 → τ.2.1 88 c = s.1 88 c) ∧ (∀ j, j ≠ 88 → j ≠ 89 → τ.2.1 j = s.1 j) ∧ ∀ k, k < 1894 → τ.2.1 89 k = s.1 90 k) := by
  unfold F_X12_image_13 F_X12_image_L15
  refine pk_whl (fun v => v.1 = ci 0 ∧ (∀ j, j ≠ 89 → v.2.2.1 j = s.1 j) ∧ ∃ k, v.2.1 = cn k ∧ k ≤ 1894 ∧ ∀ j, j < k → v.2.2.1 89 j = s.1 90 j) ⟨rfl, fun _ _ => rfl, 0, rfl, by omega, fun j hj => absurd hj (by omega)⟩ (fun v hv => ?_)
  obtain ⟨x1, x2, u⟩ := v
  obtain ⟨g1, g2, k, g3, g4, g5⟩ := hv
  have g1 : x1 = ci 0 := g1
  have g2 : ∀ j, j ≠ 89 → u.1 j = s.1 j := g2
  have g3 : x2 = cn k := g3
  have g5 : ∀ j, j < k → u.1 89 j = s.1 90 j := g5
  subst g1; subst g3
  unfold F_X12_image_B15 F_X12_image_53 F_X12_forgets
  rw [c1894]
  by_cases hk : 1894 ≤ k
  · rw [if_pos ((cn_le (by omega) (by omega)).mpr hk), if_pos c0e0]
    dsimp only
    rw [b1_some, V_X12_image_67, b1_some]
    refine pk_some (show _ ∧ _ from ⟨rfl, mu_sameP, ?_, fun c h3 h4 => ?_, fun j h1 h2 => ?_, fun j hj => ?_⟩)
    all_goals dsimp only
    · rw [mu_cell (by decide)]; exact mu_same
    · rw [mu_cell (Or.inr h4), mu_cell (Or.inr h3), g2 88 (by decide)]
    · rw [mu_row h1, mu_row h1]; exact g2 j h2
    · rw [mu_row (by decide), mu_row (by decide)]; exact g5 j (by omega)
  · rw [if_neg (fun h => hk ((cn_le (by omega) (by omega)).mp h)), if_pos c0e0, if_neg (cn_ix (by omega) (by omega)), if_neg (cn_ix (by omega) (by omega)), cn_nat (by omega), cnu (by omega)]
    refine pk_some (show _ ∧ _ from ⟨rfl, fun j hj => (mu_row hj).trans (g2 j hj), k + 1, rfl, by omega, fun j hj => ?_⟩)
    show mu u.1 89 k (u.1 90 k) 89 j = _
    by_cases hjk : j = k
    · subst hjk; rw [mu_same]; exact congrFun (g2 90 (by decide)) j
    · rw [mu_cell (Or.inr hjk)]; exact g5 j (by omega)
/-- .. and takes it -/
theorem V_takeI {a1 : Int32} {s : mG} (ha : ¬ a1 = 0) : pk (F_X12_image_13 a1 s) (fun τ => τ.1 = ci 1 ∧ τ.2.1 88 4 = ci 1 ∧ (∀ c, c ≠ 4 → τ.2.1 88 c = s.1 88 c) ∧ (∀ j, j ≠ 88 → j ≠ 90 → τ.2.1 j = s.1 j) ∧ ∀ k, k < 1894 → τ.2.1 90 k = s.1 89 k) := by
  unfold F_X12_image_13 F_X12_image_L15
  refine pk_whl (fun v => v.1 = a1 ∧ (∀ j, j ≠ 90 → v.2.2.1 j = s.1 j) ∧ ∃ k, v.2.1 = cn k ∧ k ≤ 1894 ∧ ∀ j, j < k → v.2.2.1 90 j = s.1 89 j) ⟨rfl, fun _ _ => rfl, 0, rfl, by omega, fun j hj => absurd hj (by omega)⟩ (fun v hv => ?_)
  obtain ⟨x1, x2, u⟩ := v
  obtain ⟨g1, g2, k, g3, g4, g5⟩ := hv
  have g1 : x1 = a1 := g1
  have g2 : ∀ j, j ≠ 90 → u.1 j = s.1 j := g2
  have g3 : x2 = cn k := g3
  have g5 : ∀ j, j < k → u.1 90 j = s.1 89 j := g5
  subst g1; subst g3
  unfold F_X12_image_B15 F_X12_image_53
  rw [c1894]
  by_cases hk : 1894 ≤ k
  · rw [if_pos ((cn_le (by omega) (by omega)).mpr hk), if_neg ha, V_X12_image_67, b1_some]
    refine pk_some (show _ ∧ _ from ⟨rfl, mu_sameP, fun c h4 => ?_, fun j h1 h2 => ?_, fun j hj => ?_⟩)
    all_goals dsimp only
    · rw [mu_cell (Or.inr h4), g2 88 (by decide)]
    · rw [mu_row h1]; exact g2 j h2
    · rw [mu_row (by decide)]; exact g5 j (by omega)
  · rw [if_neg (fun h => hk ((cn_le (by omega) (by omega)).mp h)), if_neg ha, if_neg (cn_ix (by omega) (by omega)), if_neg (cn_ix (by omega) (by omega)), cn_nat (by omega), cnu (by omega)]
    refine pk_some (show _ ∧ _ from ⟨rfl, fun j hj => (mu_row hj).trans (g2 j hj), k + 1, rfl, by omega, fun j hj => ?_⟩)
    show mu u.1 90 k (u.1 89 k) 90 j = _
    by_cases hjk : j = k
    · subst hjk; rw [mu_same]; exact congrFun (g2 89 (by decide)) j
    · rw [mu_cell (Or.inr hjk)]; exact g5 j (by omega)
theorem HSr18_w {D : Nat → Nat → Int32} {w w' : Nat → Int32} (H : HSr 18 D w) (e : ∀ k, k < 1894 → w' k = w k) : HSr 18 D w' := by
  obtain ⟨t1, t2, t3, t4, t5, t6, t7, t8, c1, c2, c3, c4⟩ := H
  refine ⟨TWr_same t1 rfl rfl (e _ (by decide)) (fun a b ha hb => e _ (by have := ixG_rng ha hb; omega)), TWr_same t2 rfl rfl (e _ (by decide)) (fun a b ha hb => e _ (by unfold ixB; omega)), LWr_same t3 rfl rfl (fun k hk => e k (by omega)), CWr_same t4 rfl rfl (fun k h1 h2 => e k (by omega)), TWr_same t5 rfl rfl (e _ (by decide)) (fun a b ha hb => e _ (by unfold ixS; omega)), TWr_same t6 rfl rfl (e _ (by decide)) (fun a b ha hb => e _ (by unfold ixH; omega)), TWr_same t7 rfl rfl (e _ (by decide)) (fun a b ha hb => e _ (by unfold ixR; omega)), TWr_same t8 rfl rfl (e _ (by decide)) (fun a b ha hb => e _ (by unfold ixC; omega)), ?_, ?_, ?_, ?_⟩
  · rw [e 113 (by decide)]; exact c1
  · rw [e 114 (by decide)]; exact c2
  · rw [e 0 (by decide)]; exact c3
  · rw [e 1 (by decide)]; exact c4
theorem LTy_w {nc : Nat} {w w' : Nat → Int32} (h : LTy nc w) (e : ∀ k, k < 1894 → w' k = w k) : LTy nc w' := by
  obtain ⟨h1, n, hn, h2, h3⟩ := h
  refine ⟨h1, n, hn, by rw [e 117 (by decide)]; exact h2, fun r hr => ?_⟩
  obtain ⟨p, q, c, hpq, hqc, hc, z1, z2, z3, z4, z5⟩ := h3 r hr
  refine ⟨p, q, c, hpq, hqc, hc, by rw [e _ (by omega)]; exact z1, by rw [e _ (by omega)]; exact z2, by rw [e _ (by omega)]; exact z3, Rt_congr _ _ _ _ (fun j _ hj => e _ (by omega)) z4, ?_⟩
  rcases z5 with q | q
  · exact Or.inl q
  · exact Or.inr (Rt_congr _ _ _ _ (fun j _ hj => e _ (by omega)) q)
theorem R_image {a b : mG} {x : Int32} (h : SIM a b) (hC : CTs a) : rel (F_X11_image x a) (F_X12_image x b) (fun τ υ => τ.1 = υ.1 ∧ SIM τ.2 υ.2) := by
  obtain ⟨⟨n, nb, nc, hn, hnb, e2, e4, e8, H, L, V⟩, P, I⟩ := id h
  obtain ⟨i1, i2, ⟨k1, k2, k3, k4⟩, i3⟩ := id I
  unfold F_X11_image F_X12_image
  by_cases hx : x = 0
  · rw [if_pos hx, if_pos hx, i2]
    by_cases h4 : b.1 88 4 = 0
    · rw [if_pos h4, if_pos h4]; exact rel_some ⟨rfl, h⟩
    rw [if_neg h4, if_neg h4]
    obtain ⟨H18, m, mc, hm, g3, gc, LL, VV⟩ := i3 h4
    have hx0 : x = ci 0 := hx.trans c0e0.symm
    rw [hx0]
    intro τ hτ υ hυ
    obtain ⟨u, hu, hτ⟩ := m_b1 hτ
    unfold F_X5_forget at hτ
    dsimp only at hτ
    rw [b1_some] at hτ
    have hτ := Option.some.inj hτ
    subst hτ
    obtain ⟨q1, q2, q3, q4, q5⟩ := V_houseH (h := 1) (a := 18) (Or.inl (by decide)) ALh_1 ALh_18 H18 (HSr_SH H) u hu
    obtain ⟨r1, r2, r3, r4, r5, r6⟩ := V_giveI υ hυ
    have q2 : ∀ i, (i < 1 ∨ 17 < i) → u.1 i = a.1 i := q2
    obtain ⟨_, ⟨_, _, nb2, hnb2, f3, _⟩, _⟩ := id H18
    have e4' : b.1 88 4 = ci 1 := i1.resolve_left h4
    have y1 : mu u.1 35 1 (ci 0) 35 1 = ci 0 := mu_same
    have y2 : mu u.1 35 1 (ci 0) 35 2 = a.1 35 2 := (mu_cell (by decide)).trans (congrFun (q2 35 (by decide)) 2)
    have y0 : mu u.1 35 1 (ci 0) 0 = a.1 0 := (mu_row (by decide)).trans (q2 0 (by decide))
    refine ⟨r1.symm, SIM_forget h (u := (mu u.1 35 1 (ci 0), u.2)) (t := υ.2) hm hnb2 ?_ ?_ ?_ (HSr1_row q1 (fun j _ h2 => mu_row (by omega)) r6) (LTy_w LL r6) (VIm_congr hm (fun k hk => r6 k (by omega)) VV) y1 y2 (fun j h1 h2 => (mu_row (by omega)).trans (q2 j (by omega))) r3 (congrFun y0 2) (fun j h1 h2 => (mu_row (by omega)).trans (q2 j (by omega))) (r2.trans e4'.symm) (r5 90 (by decide) (by decide))⟩
    · have z : mu u.1 35 1 (ci 0) 2 = u.1 2 := mu_row (by decide)
      exact (congrFun z 3).trans (q3.trans g3)
    · have z : mu u.1 35 1 (ci 0) 4 = u.1 4 := mu_row (by decide)
      exact (congrFun z 3).trans (q4.trans f3)
    · have z : mu u.1 35 1 (ci 0) 8 = u.1 8 := mu_row (by decide)
      exact (congrFun z 3).trans (q5.trans gc)
  · rw [if_neg hx, if_neg hx]
    have sh : SHh 18 a := ⟨k1, k2, hC (23, 4, 16) (by decide), hC (25, 1, 400) (by decide), hC (27, 2, 6) (by decide), hC (29, 4, 12) (by decide), k3, k4⟩
    intro τ hτ υ hυ
    obtain ⟨u, hu, hτ⟩ := m_b1 hτ
    have hτ := Option.some.inj hτ
    subst hτ
    obtain ⟨q1, q2, q3, q4, q5⟩ := V_houseH (h := 18) (a := 1) (Or.inr (by decide)) ALh_18 ALh_1 H sh u hu
    obtain ⟨r1, r2, r3, r4, r5⟩ := V_takeI hx υ hυ
    have q2 : ∀ i, (i < 18 ∨ 34 < i) → u.1 i = a.1 i := q2
    have q3 : u.1 19 3 = a.1 2 3 := q3
    have q5 : u.1 25 3 = a.1 8 3 := q5
    have r89 : υ.2.1 89 = b.1 89 := r4 89 (by decide) (by decide)
    have D : ∀ j, j ≠ 0 → mu u.1 0 2 (ci 1) j = u.1 j := fun j hj => mu_row hj
    have sh2 : SHh 18 u := HSr_SH q1
    refine ⟨r1.symm, ⟨n, nb, nc, hn, hnb, ?_, ?_, ?_, ?_, by rw [r89]; exact L, by rw [r89]; exact V⟩, ?_, ?_⟩
    · show mu u.1 0 2 (ci 1) 2 3 = _
      rw [D 2 (by decide), q2 2 (by decide)]; exact e2
    · show mu u.1 0 2 (ci 1) 4 3 = _
      rw [D 4 (by decide), q2 4 (by decide)]; exact e4
    · show mu u.1 0 2 (ci 1) 8 3 = _
      rw [D 8 (by decide), q2 8 (by decide)]; exact e8
    · rw [r89]
      exact HSr1_row H (fun j h1 h2 => (D j (by omega)).trans (q2 j (by omega))) (fun _ _ => rfl)
    · have rr : ∀ j, j ≠ 0 → (j < 18 ∨ 34 < j) → mu u.1 0 2 (ci 1) j = a.1 j := fun j h1 h2 => (D j h1).trans (q2 j h2)
      exact PSr_go P (rr 35 (by decide) (by decide)) (r3 3 (by decide)) (r4 91 (by decide) (by decide)) (rr 2 (by decide) (by decide)) e2 hn e4 (Nat.le_refl _) hnb (by rw [show (((ci 1), (mu u.1 0 2 (ci 1), u.2)) : Int32 × mG).2.1 4 = a.1 4 from rr 4 (by decide) (by decide)]; exact e4) (fun j h1 h2 => rr j (by omega) (by omega)) (fun r c _ _ => congrFun (rr 3 (by decide) (by decide)) _)
    · refine ⟨by rw [r2]; exact pb1, (show mu u.1 0 2 (ci 1) 0 2 = ci 1 from mu_same).trans r2.symm, ⟨TS_row sh2.1 (D 19 (by decide)), TS_row sh2.2.1 (D 21 (by decide)), TS_row sh2.2.2.2.2.2.2.1 (D 31 (by decide)), TS_row sh2.2.2.2.2.2.2.2 (D 33 (by decide))⟩, fun _ => ⟨HSr18_w (HSr18_row q1 (fun j h1 h2 => D j (by omega))) r5, n, nc, hn, ?_, ?_, LTy_w L r5, VIm_congr hn (fun k hk => r5 k (by omega)) V⟩⟩
      · show mu u.1 0 2 (ci 1) 19 3 = _
        rw [D 19 (by decide), q3]; exact e2
      · show mu u.1 0 2 (ci 1) 25 3 = _
        rw [D 25 (by decide), q5]; exact e8
end
end
/-! 5zf.text -/
section
noncomputable section
/-! A TEXT TAKEN, on both sides -/
theorem V_forgetSeenE {s : mG} {n : Nat} (h1 : s.1 2 1 = cn 11) (h3 : s.1 2 3 = cn n) (hn : n ≤ 12) : pk (F_X2_forgetSeen 1 s) (fun u => (∀ j, j ≠ 3 → u.1 j = s.1 j) ∧ ∀ r c, r < n → c < 11 → u.1 3 (r * 11 + c) = if c < 5 then s.1 3 (r * 11 + c) else ci (-1)) := by
  unfold F_X2_forgetSeen F_X2_forgetSeen_L2
  refine pk_whl (fun v => ∃ g, g ≤ n ∧ v.1 = cn g ∧ (∀ j, j ≠ 3 → v.2.1 j = s.1 j) ∧ (∀ r c, r < g → c < 11 → v.2.1 3 (r * 11 + c) = if c < 5 then s.1 3 (r * 11 + c) else ci (-1)) ∧ ∀ k, g * 11 ≤ k → v.2.1 3 k = s.1 3 k) ⟨0, Nat.zero_le _, rfl, fun _ _ => rfl, fun r c hr => absurd hr (by omega), fun _ _ => rfl⟩ (fun v hv => ?_)
  obtain ⟨x1, u⟩ := v
  obtain ⟨g, hg, e1, r1, k1, k2⟩ := hv
  have e1 : x1 = cn g := e1
  have r1 : ∀ j, j ≠ 3 → u.1 j = s.1 j := r1
  have k1 : ∀ r c, r < g → c < 11 → u.1 3 (r * 11 + c) = if c < 5 then s.1 3 (r * 11 + c) else ci (-1) := k1
  have k2 : ∀ k, g * 11 ≤ k → u.1 3 k = s.1 3 k := k2
  subst e1
  unfold F_X2_forgetSeen_B2
  rw [show u.1 (1 + 1) 3 = cn n by rw [r1 (1 + 1) (by decide)]; exact h3]
  by_cases hgn : n ≤ g
  · rw [if_pos ((cn_le (by omega) (by omega)).mpr hgn)]
    exact pk_some ⟨r1, fun r c hr hc => k1 r c (by omega) hc⟩
  · rw [if_neg (fun q => hgn ((cn_le (by omega) (by omega)).mp q))]
    refine pk_b1 (V_fsoE (n := n) (by rw [r1 2 (by decide)]; exact h1) (by rw [r1 2 (by decide)]; exact h3) hn (by omega)) (fun w q => ?_)
    obtain ⟨q1, q2, q3⟩ := q
    refine pk_some (show ∃ g, _ from ⟨g + 1, by omega, cnu (by omega), fun j hj => (q1 j hj).trans (r1 j hj), fun r c hr hc => ?_, fun k hk => (q2 k (by omega)).trans (k2 k (by omega))⟩)
    by_cases e : r = g
    · subst e
      by_cases h5 : c < 5
      · rw [if_pos h5]
        exact (q2 _ (by omega)).trans (k2 _ (by omega))
      · rw [if_neg h5]
        exact q3 c (by omega) hc
    · exact (q2 _ (by omega)).trans (k1 r c (by omega) hc)
theorem SIM_same {a b u t : mG} (h : SIM a b) (lo : ∀ j, j < 55 → u.1 j = a.1 j) (r89 : t.1 89 = b.1 89) (r90 : t.1 90 = b.1 90) (r91 : t.1 91 = b.1 91) (c3 : t.1 88 3 = b.1 88 3) (c4 : t.1 88 4 = b.1 88 4) : SIM u t := by
  obtain ⟨⟨n, nb, nc, hn, hnb, e2, e4, e8, H, L, V⟩, P, I⟩ := h
  refine ⟨⟨n, nb, nc, hn, hnb, by rw [lo 2 (by decide)]; exact e2, by rw [lo 4 (by decide)]; exact e4, by rw [lo 8 (by decide)]; exact e8, ?_, by rw [r89]; exact L, by rw [r89]; exact V⟩, ?_, IMG_same I (congrFun (lo 0 (by decide)) 2) (fun j _ h2 => lo j (by omega)) c4 r90⟩
  · rw [r89]
    exact HSr1_row H (fun j _ h2 => lo j (by omega)) (fun _ _ => rfl)
  · exact PSr_go P (lo 35 (by decide)) c3 r91 (lo 2 (by decide)) e2 hn e4 (Nat.le_refl _) hnb (by rw [lo 4 (by decide)]; exact e4) (fun j _ h2 => lo j (by omega)) (fun r c _ _ => congrFun (lo 3 (by decide)) _)
/-- what of the reference stays while a text is read, and what its code pushes -/
theorem V_refBody {E : Nat → Nat → Int32} {z : Nat → Nat → Int64} {r len : Nat} {w3 : Int32} {t2 : mG} (hr : r < 3) (hlen : len ≤ 400) (e15 : E 88 15 = cn len) (e16 : E 88 16 = cn 0) (f : refBody (cn r) (E, z) = some (w3, t2)) : (∀ j, j < 92 → j ≠ 88 → t2.1 j = E j) ∧ t2.1 88 3 = E 88 3 ∧ t2.1 88 4 = E 88 4 ∧ (r = 0 → ¬ w3 = 0 → LSxT t2) := by
  have p0 : P0 (E, z) := by
    unfold P0
    show (E 88 15).toInt ≤ 400 ∧ 0 ≤ (E 88 16).toInt ∧ (E 88 16).toInt ≤ (E 88 15).toInt
    rw [e15, e16, t_cn (by omega), t_cn (by omega)]
    omega
  obtain ⟨s11, g1, nx⟩ := T_X12_next0 p0
  unfold refBody at f
  rw [g1, b1_some] at f
  have fr : ∀ {τ : Int32 × mG}, RT s11 τ.2 → (∀ j, j < 92 → j ≠ 88 → τ.2.1 j = E j) ∧ τ.2.1 88 3 = E 88 3 ∧ τ.2.1 88 4 = E 88 4 := fun {τ} q =>
    ⟨fun j h1 h2 => (q.1 j h1 h2).trans (nx.1.1 j h2), q.2.1.trans (nx.1.2 3 (by decide) (by decide) (by decide) (by decide)), q.2.2.1.trans (nx.1.2 4 (by decide) (by decide) (by decide) (by decide))⟩
  by_cases h0 : r = 0
  · subst h0
    rw [if_pos (by decide)] at f
    obtain ⟨τ, g2, k1, k2, k3⟩ := TT_readsLaw nx.2.1
    rw [g2] at f
    have f := Option.some.inj f
    subst f
    obtain ⟨q1, q2, q3⟩ := fr k2
    exact ⟨q1, q2, q3, fun _ hne => k3 hne⟩
  · have hr0 : ¬ cn r = 0 := fun e => h0 ((cn_inj (b := 0) (by omega) (by omega)).mp (e.trans (by decide)))
    rw [if_neg hr0] at f
    obtain ⟨τ, g2, k1, k2, k3⟩ := T_X12_readsRows nx.2.1
    rw [g2] at f
    have f := Option.some.inj f
    subst f
    obtain ⟨q1, q2, q3⟩ := fr k2
    exact ⟨q1, q2, q3, fun e => absurd e h0⟩
theorem ovr_lo {p n k : Nat} {f g : Nat → Int32} (h : k < p ∨ p + n ≤ k) : ovr p n f g k = g k := by
  unfold ovr
  rw [if_neg (by omega)]
theorem ovr_in {p n k : Nat} {f g : Nat → Int32} (h : k < n) : ovr p n f g (p + k) = f k := by
  unfold ovr
  rw [if_pos (by omega), show p + k - p = k by omega]
/-- the law taken -/
theorem SIM_law {a b u t : mG} {L nc : Nat} {cc dd ee ff : Nat → Int32} (h : SIM a b) (hL : L ≤ 16) (hnc : nc ≤ 400) (lo : ∀ j, j < 55 → j ≠ 6 → j ≠ 7 → j ≠ 8 → j ≠ 9 → u.1 j = a.1 j) (k6 : ∀ c, c ≠ 3 → u.1 6 c = a.1 6 c) (k63 : u.1 6 3 = cn L) (k7 : ∀ j, j < L * 4 → u.1 7 j = cc j) (k8 : ∀ c, c ≠ 3 → u.1 8 c = a.1 8 c) (k83 : u.1 8 3 = cn nc) (k9 : ∀ j, j < nc * 1 → u.1 9 j = ee j) (hLR : ∀ j, j < L → LR cc dd j) (hEN : ∀ j, j < nc → EN (ee j) (ff (2 * j)) (ff (2 * j + 1))) (w117 : t.1 89 117 = cn L) (wl : ∀ j, j < L → t.1 89 (985 + j) = dd (4 * j) ∧ t.1 89 (1001 + j) = dd (4 * j + 1) ∧ t.1 89 (1017 + j) = dd (4 * j + 2) ∧ t.1 89 (1033 + j) = dd (4 * j + 3)) (wc : ∀ j, j < 2 * nc → t.1 89 (1050 + j) = ff j) (wo : ∀ k, k ≠ 117 → (k < 985 ∨ k = 1049 ∨ 1850 ≤ k) → t.1 89 k = b.1 89 k) (ty : ∀ i, i < L → ∃ p q c : Nat, p ≤ q ∧ q ≤ c ∧ c ≤ nc ∧ dd (4 * i) = cn p ∧ dd (4 * i + 1) = cn q ∧ dd (4 * i + 2) = cn c ∧ Rt ff p (q - p) [] [false] ∧ (q = c ∨ Rt ff q (c - q) [] [true])) (r90 : t.1 90 = b.1 90) (r91 : t.1 91 = b.1 91) (c3 : t.1 88 3 = b.1 88 3) (c4 : t.1 88 4 = b.1 88 4) : SIM u t := by
  obtain ⟨⟨n, nb, nc0, hn, hnb, e2, e4, e8, H, L0, V⟩, P, I⟩ := h
  obtain ⟨t1, t2, t3, t4, t5, t6, t7, t8, d1, d2, d3, d4⟩ := H
  have rl : ∀ j, j < 55 → j ≠ 6 → j ≠ 7 → j ≠ 8 → j ≠ 9 → u.1 j = a.1 j := lo
  refine ⟨⟨n, nb, nc, hn, hnb, by rw [rl 2 (by decide) (by decide) (by decide) (by decide) (by decide)]; exact e2, by rw [rl 4 (by decide) (by decide) (by decide) (by decide) (by decide)]; exact e4, k83, ⟨?_, ?_, ?_, ?_, ?_, ?_, ?_, ?_, ?_, ?_, ?_, ?_⟩, ?_, ?_⟩, ?_, IMG_same I (congrFun (rl 0 (by decide) (by decide) (by decide) (by decide) (by decide)) 2) (fun j h1 h2 => rl j (by omega) (by omega) (by omega) (by omega) (by omega)) c4 r90⟩
  · exact TWr_same t1 (rl _ (by decide) (by decide) (by decide) (by decide) (by decide)) (rl _ (by decide) (by decide) (by decide) (by decide) (by decide)) (wo _ (by decide) (by decide)) (fun x y hx hy => wo _ (by have := ixG_rng hx hy; omega) (by have := ixG_rng hx hy; omega))
  · exact TWr_same t2 (rl _ (by decide) (by decide) (by decide) (by decide) (by decide)) (rl _ (by decide) (by decide) (by decide) (by decide) (by decide)) (wo _ (by decide) (by decide)) (fun x y hx hy => wo _ (by unfold ixB; omega) (by unfold ixB; omega))
  · refine ⟨(k6 0 (by decide)).trans t3.1, (k6 1 (by decide)).trans t3.2.1, L, hL, k63, w117, fun r hr => ?_⟩
    obtain ⟨q1, q2, q3, x, hx, q4, q5⟩ := hLR r hr
    obtain ⟨z1, z2, z3, z4⟩ := wl r hr
    rw [show (1 + 5 + 1 : Nat) = 7 from rfl, k7 _ (by omega), k7 _ (by omega), k7 _ (by omega), k7 _ (by omega), z1, z2, z3, z4]
    exact ⟨q1, q2, q3, x, hx, q4, q5⟩
  · refine ⟨(k8 0 (by decide)).trans t4.1, (k8 1 (by decide)).trans t4.2.1, nc, hnc, k83, fun j hj => ?_⟩
    rw [show (1 + 7 + 1 : Nat) = 9 from rfl, k9 j (by omega), wc (2 * j) (by omega), show 1050 + 2 * j + 1 = 1050 + (2 * j + 1) by omega, wc (2 * j + 1) (by omega)]
    exact hEN j hj
  · exact TWr_same t5 (rl _ (by decide) (by decide) (by decide) (by decide) (by decide)) (rl _ (by decide) (by decide) (by decide) (by decide) (by decide)) (wo _ (by decide) (by decide)) (fun x y hx hy => wo _ (by unfold ixS; omega) (by unfold ixS; omega))
  · exact TWr_same t6 (rl _ (by decide) (by decide) (by decide) (by decide) (by decide)) (rl _ (by decide) (by decide) (by decide) (by decide) (by decide)) (wo _ (by decide) (by decide)) (fun x y hx hy => wo _ (by unfold ixH; omega) (by unfold ixH; omega))
  · exact TWr_same t7 (rl _ (by decide) (by decide) (by decide) (by decide) (by decide)) (rl _ (by decide) (by decide) (by decide) (by decide) (by decide)) (wo _ (by decide) (by decide)) (fun x y hx hy => wo _ (by unfold ixR; omega) (by unfold ixR; omega))
  · exact TWr_same t8 (rl _ (by decide) (by decide) (by decide) (by decide) (by decide)) (rl _ (by decide) (by decide) (by decide) (by decide) (by decide)) (wo _ (by decide) (by decide)) (fun x y hx hy => wo _ (by unfold ixC; omega) (by unfold ixC; omega))
  · rw [rl 1 (by decide) (by decide) (by decide) (by decide) (by decide), wo 113 (by decide) (by decide)]; exact d1
  · rw [rl 1 (by decide) (by decide) (by decide) (by decide) (by decide), wo 114 (by decide) (by decide)]; exact d2
  · rw [rl 1 (by decide) (by decide) (by decide) (by decide) (by decide), wo 0 (by decide) (by decide)]; exact d3
  · rw [rl 1 (by decide) (by decide) (by decide) (by decide) (by decide), wo 1 (by decide) (by decide)]; exact d4
  · refine ⟨hnc, L, hL, w117, fun r hr => ?_⟩
    obtain ⟨p, q, c, h1, h2, h3, z1, z2, z3, z4, z5⟩ := ty r hr
    obtain ⟨y1, y2, y3, y4⟩ := wl r hr
    refine ⟨p, q, c, h1, h2, h3, y1.trans z1, y2.trans z2, y3.trans z3, Rt_congr _ _ _ _ (fun j _ hj => wc j (by omega)) z4, ?_⟩
    rcases z5 with e | e
    · exact Or.inl e
    · exact Or.inr (Rt_congr _ _ _ _ (fun j _ hj => wc j (by omega)) e)
  · exact VIm_congr hn (fun k hk => wo k (by omega) (by omega)) V
  · exact PSr_go P (rl 35 (by decide) (by decide) (by decide) (by decide) (by decide)) c3 r91 (rl 2 (by decide) (by decide) (by decide) (by decide) (by decide)) e2 hn e4 (Nat.le_refl _) hnb (by rw [rl 4 (by decide) (by decide) (by decide) (by decide) (by decide)]; exact e4) (fun j h1 h2 => rl j (by omega) (by omega) (by omega) (by omega) (by omega)) (fun r c _ _ => congrFun (rl 3 (by decide) (by decide) (by decide) (by decide) (by decide)) _)
/-- the signs taken: nothing is seen -/
theorem SIM_signs {a b u t : mG} {R : Nat} {cc : Nat → Int32} (h : SIM a b) (hR : R ≤ 6) (lo : ∀ j, j < 55 → j ≠ 3 → j ≠ 10 → j ≠ 11 → j ≠ 35 → u.1 j = a.1 j) (k10 : ∀ c, c ≠ 3 → u.1 10 c = a.1 10 c) (k103 : u.1 10 3 = cn R) (k11 : ∀ j, j < R * 2 → u.1 11 j = cc j) (f1 : u.1 35 1 = ci 0) (f2 : u.1 35 2 = a.1 35 2) (k3 : ∀ n, n ≤ 12 → a.1 2 3 = cn n → ∀ r c, r < n → c < 11 → u.1 3 (r * 11 + c) = if c < 5 then a.1 3 (r * 11 + c) else ci (-1)) (c3 : t.1 88 3 = ci 0) (c4 : t.1 88 4 = b.1 88 4) (r90 : t.1 90 = b.1 90) (w : t.1 89 = ovr 39 72 (fun _ => ci (-1)) (ovr 143 (2 * R) cc (mu b.1 89 115 (cn R) 89))) : SIM u t := by
  obtain ⟨⟨n, nb, nc, hn, hnb, e2, e4, e8, H, L0, V⟩, P, I⟩ := id h
  obtain ⟨t1, t2, t3, t4, t5, t6, t7, t8, d1, d2, d3, d4⟩ := H
  have rl : ∀ j, j < 55 → j ≠ 3 → j ≠ 10 → j ≠ 11 → j ≠ 35 → u.1 j = a.1 j := lo
  have wo : ∀ k, k ≠ 115 → (k < 39 ∨ (111 ≤ k ∧ k < 143) ∨ 155 ≤ k) → t.1 89 k = b.1 89 k := fun k h1 h2 => by
    rw [w, ovr_lo (by omega), ovr_lo (by omega)]
    exact mu_cell (Or.inr h1)
  have w115 : t.1 89 115 = cn R := by
    rw [w, ovr_lo (by omega), ovr_lo (by omega)]
    exact mu_same
  refine SIM_forget h hn hnb (by rw [rl 2 (by decide) (by decide) (by decide) (by decide) (by decide)]; exact e2) (by rw [rl 4 (by decide) (by decide) (by decide) (by decide) (by decide)]; exact e4) (by rw [rl 8 (by decide) (by decide) (by decide) (by decide) (by decide)]; exact e8) ⟨?_, ?_, ?_, ?_, ?_, ?_, ?_, ?_, ?_, ?_, ?_, ?_⟩ (LTy_same L0 (fun k hk => wo k (by omega) (by omega))) ⟨?_, ?_, fun i hi => ?_⟩ f1 f2 (fun j h1 h2 => rl j (by omega) (by omega) (by omega) (by omega) (by omega)) c3 (congrFun (rl 0 (by decide) (by decide) (by decide) (by decide) (by decide)) 2) (fun j h1 h2 => rl j (by omega) (by omega) (by omega) (by omega) (by omega)) c4 r90
  · obtain ⟨g0, g1, m, hm, g3, gc, gx⟩ := t1
    have em : m = n := (cn_inj (by omega) (by omega)).mp (g3.symm.trans e2)
    subst em
    have u2 : u.1 2 = a.1 2 := rl 2 (by decide) (by decide) (by decide) (by decide) (by decide)
    refine ⟨by rw [show (1 + 1 : Nat) = 2 from rfl, u2]; exact g0, by rw [show (1 + 1 : Nat) = 2 from rfl, u2]; exact g1, m, hm, by rw [show (1 + 1 : Nat) = 2 from rfl, u2]; exact e2, (wo 112 (by decide) (by decide)).trans gc, fun r c hr hc => ?_⟩
    rw [show (1 + 1 + 1 : Nat) = 3 from rfl, k3 m hn e2 r c hr hc]
    by_cases h5 : c < 5
    · rw [if_pos h5, wo _ (by rcases ixG_cases (r := r) hc with q | q | q | q | q | q <;> omega) (by rcases ixG_cases (r := r) hc with q | q | q | q | q | q <;> omega)]
      exact gx r c hr hc
    · rw [if_neg h5]
      have ei : ixG r c = 39 + (6 * r + (c - 5)) := by
        rcases ixG_cases (r := r) hc with q | q | q | q | q | q <;> omega
      rw [ei, w, ovr_in (by omega)]
  · exact TWr_same t2 (rl _ (by decide) (by decide) (by decide) (by decide) (by decide)) (rl _ (by decide) (by decide) (by decide) (by decide) (by decide)) (wo _ (by decide) (by decide)) (fun x y hx hy => wo _ (by unfold ixB; omega) (by unfold ixB; omega))
  · exact LWr_same t3 (rl _ (by decide) (by decide) (by decide) (by decide) (by decide)) (rl _ (by decide) (by decide) (by decide) (by decide) (by decide)) (fun k hk => wo k (by omega) (by omega))
  · exact CWr_same t4 (rl _ (by decide) (by decide) (by decide) (by decide) (by decide)) (rl _ (by decide) (by decide) (by decide) (by decide) (by decide)) (fun k h1 h2 => wo k (by omega) (by omega))
  · refine ⟨(k10 0 (by decide)).trans t5.1, (k10 1 (by decide)).trans t5.2.1, R, hR, k103, w115, fun r c hr hc => ?_⟩
    rw [show (1 + 9 + 1 : Nat) = 11 from rfl, k11 _ (by omega), w, ovr_lo (by unfold ixS; omega), show ixS r c = 143 + (r * 2 + c) by unfold ixS; omega, ovr_in (by omega)]
  · exact TWr_same t6 (rl _ (by decide) (by decide) (by decide) (by decide) (by decide)) (rl _ (by decide) (by decide) (by decide) (by decide) (by decide)) (wo _ (by decide) (by decide)) (fun x y hx hy => wo _ (by unfold ixH; omega) (by unfold ixH; omega))
  · exact TWr_same t7 (rl _ (by decide) (by decide) (by decide) (by decide) (by decide)) (rl _ (by decide) (by decide) (by decide) (by decide) (by decide)) (wo _ (by decide) (by decide)) (fun x y hx hy => wo _ (by unfold ixR; omega) (by unfold ixR; omega))
  · exact TWr_same t8 (rl _ (by decide) (by decide) (by decide) (by decide) (by decide)) (rl _ (by decide) (by decide) (by decide) (by decide) (by decide)) (wo _ (by decide) (by decide)) (fun x y hx hy => wo _ (by unfold ixC; omega) (by unfold ixC; omega))
  · rw [rl 1 (by decide) (by decide) (by decide) (by decide) (by decide), wo 113 (by decide) (by decide)]; exact d1
  · rw [rl 1 (by decide) (by decide) (by decide) (by decide) (by decide), wo 114 (by decide) (by decide)]; exact d2
  · rw [rl 1 (by decide) (by decide) (by decide) (by decide) (by decide), wo 0 (by decide) (by decide)]; exact d3
  · rw [rl 1 (by decide) (by decide) (by decide) (by decide) (by decide), wo 1 (by decide) (by decide)]; exact d4
  · rw [wo 0 (by decide) (by decide)]; exact V.1
  · rw [wo 0 (by decide) (by decide)]; exact V.2.1
  · have Vi := V.2.2 i hi
    unfold VIg at Vi ⊢
    rw [wo (3 + i) (by omega) (by omega), wo (15 + i) (by omega) (by omega), wo (27 + i) (by omega) (by omega)]
    exact Vi
/-- the shifts taken -/
theorem SIM_shifts {a b u t : mG} {R : Nat} {cc : Nat → Int32} (h : SIM a b) (hR : R ≤ 12) (lo : ∀ j, j < 55 → j ≠ 12 → j ≠ 13 → j ≠ 35 → u.1 j = a.1 j) (k12 : ∀ c, c ≠ 3 → u.1 12 c = a.1 12 c) (k123 : u.1 12 3 = cn R) (k13 : ∀ j, j < R * 4 → u.1 13 j = cc j) (f1 : u.1 35 1 = ci 0) (f2 : u.1 35 2 = a.1 35 2) (c3 : t.1 88 3 = ci 0) (c4 : t.1 88 4 = b.1 88 4) (r90 : t.1 90 = b.1 90) (w : t.1 89 = ovr 155 (4 * R) cc (mu b.1 89 116 (cn R) 89)) : SIM u t := by
  obtain ⟨⟨n, nb, nc, hn, hnb, e2, e4, e8, H, L0, V⟩, P, I⟩ := id h
  obtain ⟨t1, t2, t3, t4, t5, t6, t7, t8, d1, d2, d3, d4⟩ := H
  have rl : ∀ j, j < 55 → j ≠ 12 → j ≠ 13 → j ≠ 35 → u.1 j = a.1 j := lo
  have wo : ∀ k, k ≠ 116 → (k < 155 ∨ 203 ≤ k) → t.1 89 k = b.1 89 k := fun k h1 h2 => by
    rw [w, ovr_lo (by omega)]
    exact mu_cell (Or.inr h1)
  have w116 : t.1 89 116 = cn R := by
    rw [w, ovr_lo (by omega)]
    exact mu_same
  refine SIM_forget h hn hnb (by rw [rl 2 (by decide) (by decide) (by decide) (by decide)]; exact e2) (by rw [rl 4 (by decide) (by decide) (by decide) (by decide)]; exact e4) (by rw [rl 8 (by decide) (by decide) (by decide) (by decide)]; exact e8) ⟨?_, ?_, ?_, ?_, ?_, ?_, ?_, ?_, ?_, ?_, ?_, ?_⟩ (LTy_same L0 (fun k hk => wo k (by omega) (by omega))) (VIm_congr hn (fun k hk => wo k (by omega) (by omega)) V) f1 f2 (fun j h1 h2 => rl j (by omega) (by omega) (by omega) (by omega)) c3 (congrFun (rl 0 (by decide) (by decide) (by decide) (by decide)) 2) (fun j h1 h2 => rl j (by omega) (by omega) (by omega) (by omega)) c4 r90
  · exact TWr_same t1 (rl _ (by decide) (by decide) (by decide) (by decide)) (rl _ (by decide) (by decide) (by decide) (by decide)) (wo _ (by decide) (by decide)) (fun x y hx hy => wo _ (by have := ixG_rng hx hy; omega) (by have := ixG_rng hx hy; omega))
  · exact TWr_same t2 (rl _ (by decide) (by decide) (by decide) (by decide)) (rl _ (by decide) (by decide) (by decide) (by decide)) (wo _ (by decide) (by decide)) (fun x y hx hy => wo _ (by unfold ixB; omega) (by unfold ixB; omega))
  · exact LWr_same t3 (rl _ (by decide) (by decide) (by decide) (by decide)) (rl _ (by decide) (by decide) (by decide) (by decide)) (fun k hk => wo k (by omega) (by omega))
  · exact CWr_same t4 (rl _ (by decide) (by decide) (by decide) (by decide)) (rl _ (by decide) (by decide) (by decide) (by decide)) (fun k h1 h2 => wo k (by omega) (by omega))
  · exact TWr_same t5 (rl _ (by decide) (by decide) (by decide) (by decide)) (rl _ (by decide) (by decide) (by decide) (by decide)) (wo _ (by decide) (by decide)) (fun x y hx hy => wo _ (by unfold ixS; omega) (by unfold ixS; omega))
  · refine ⟨(k12 0 (by decide)).trans t6.1, (k12 1 (by decide)).trans t6.2.1, R, hR, k123, w116, fun r c hr hc => ?_⟩
    rw [show (1 + 11 + 1 : Nat) = 13 from rfl, k13 _ (by omega), w, show ixH r c = 155 + (r * 4 + c) by unfold ixH; omega, ovr_in (by omega)]
  · exact TWr_same t7 (rl _ (by decide) (by decide) (by decide) (by decide)) (rl _ (by decide) (by decide) (by decide) (by decide)) (wo _ (by decide) (by decide)) (fun x y hx hy => wo _ (by unfold ixR; omega) (by unfold ixR; omega))
  · exact TWr_same t8 (rl _ (by decide) (by decide) (by decide) (by decide)) (rl _ (by decide) (by decide) (by decide) (by decide)) (wo _ (by decide) (by decide)) (fun x y hx hy => wo _ (by unfold ixC; omega) (by unfold ixC; omega))
  · rw [rl 1 (by decide) (by decide) (by decide) (by decide), wo 113 (by decide) (by decide)]; exact d1
  · rw [rl 1 (by decide) (by decide) (by decide) (by decide), wo 114 (by decide) (by decide)]; exact d2
  · rw [rl 1 (by decide) (by decide) (by decide) (by decide), wo 0 (by decide) (by decide)]; exact d3
  · rw [rl 1 (by decide) (by decide) (by decide) (by decide), wo 1 (by decide) (by decide)]; exact d4
end
end
/-! 5zg.text -/
section
noncomputable section
/-! TEXT, on both sides: what stands then -/
theorem R_text {T : Nat → Int32} {len : Nat} {a1 : Int32} {a b : mG} (h : SIM a b) (hlen : len ≤ 400) (hB : ∀ k, k < len → 0 ≤ (T k).toInt ∧ (T k).toInt ≤ 255) (h64 : a.1 64 = T) (h9 : a.1 55 9 = cn len) (hsh : RS0 a) (h95 : ∀ k, k < len → b.1 95 k = T k) (h15 : b.1 88 15 = cn len) : rel (F_X11_text a1 a) (F_X12_text a1 b) (fun τ υ => SIM τ.2 υ.2) := by
  obtain ⟨n, nb, nc0, hn, hnb, e2, e4, e8, H, L0, V⟩ := h.1
  have sh := HSr_SH H
  have hwi : wi a1 (ci 0) (ci 2) = 0 ∨ ∃ r, r < 3 ∧ a1 = cn r := by
    by_cases h : 0 ≤ a1.toInt ∧ a1.toInt ≤ 2
    · exact Or.inr ⟨a1.toInt.toNat, by omega, cnof h.1⟩
    · exact Or.inl (wi_out (by rw [show (ci 0).toInt = 0 by decide, show (ci 2).toInt = 2 by decide]; exact h))
  unfold F_X11_text F_X12_text
  dsimp only
  rw [F_isIn, b1_some]
  by_cases h0 : wi a1 (ci 0) (ci 2) = 0
  · rw [if_pos h0]
    have e : F_X7_readText a1 a = some (ci 0, (mu (mu a.1 55 10 (ci 0)) 55 11 (ci (-1)), a.2)) := by
      unfold F_X7_readText F_X7_readText_19
      by_cases hn : a1 < 0
      · rw [if_pos hn]
      · rw [if_neg hn]
        by_cases h2 : a1 ≤ ci 2
        · exfalso
          have q1 := t_nn hn
          have q2 := r_le rfl (by decide : (ci 2).toInt = 2) h2
          have e1 : wi a1 (ci 0) (ci 2) = ci 1 := wi_in (by rw [show (ci 0).toInt = 0 by decide]; exact q1) (by rw [show (ci 2).toInt = 2 by decide]; exact q2)
          exact absurd (e1.symm.trans h0) c1n0
        · rw [if_neg h2]
    rw [e, b2_some, if_pos c0e0]
    refine rel_some (SIM_same h (fun j hj => ?_) ?_ ?_ ?_ ?_ ?_)
    all_goals dsimp only
    · rw [mu_row (by omega), mu_row (by omega), mu_row (by omega)]
    · rw [mu_row (by decide), mu_row (by decide), mu_row (by decide)]
    · rw [mu_row (by decide), mu_row (by decide), mu_row (by decide)]
    · rw [mu_row (by decide), mu_row (by decide), mu_row (by decide)]
    · rw [mu_cell (by decide), mu_cell (by decide), mu_cell (by decide)]
    · rw [mu_cell (by decide), mu_cell (by decide), mu_cell (by decide)]
  · rw [if_neg h0]
    obtain ⟨r, hr, e⟩ := hwi.resolve_left h0
    subst e
    generalize hE : mu (mu (mu (mu (mu b.1 88 22 (ci 0)) 88 24 (ci (-1))) 88 20 (ci 0)) 88 16 (ci 0)) 88 11 (cn r) = E
    have rE : ∀ j, j ≠ 88 → E j = b.1 j := fun j hj => by
      rw [← hE, mu_row hj, mu_row hj, mu_row hj, mu_row hj, mu_row hj]
    have cE : ∀ c, c < 11 → E 88 c = b.1 88 c := fun c hc => by
      rw [← hE, mu_cell (Or.inr (by omega)), mu_cell (Or.inr (by omega)), mu_cell (Or.inr (by omega)), mu_cell (Or.inr (by omega)), mu_cell (Or.inr (by omega))]
    have e95 : ∀ k, k < len → ((E, b.2) : mG).1 95 k = T k := fun k hk => by
      show E 95 k = T k
      rw [rE 95 (by decide)]; exact h95 k hk
    have e15 : E 88 15 = cn len := by
      rw [← hE, mu_cell (by omega), mu_cell (by omega), mu_cell (by omega), mu_cell (by omega), mu_cell (by omega)]; exact h15
    have e11 : ((E, b.2) : mG).1 88 11 = cn r ∧ ((E, b.2) : mG).1 88 22 = ci 0 ∧ ((E, b.2) : mG).1 88 24 = ci (-1) := by
      show E 88 11 = _ ∧ E 88 22 = _ ∧ E 88 24 = _
      rw [← hE]
      refine ⟨mu_same, ?_, ?_⟩
      · rw [mu_cell (by omega), mu_cell (by omega), mu_cell (by omega), mu_cell (by omega), mu_same]
      · rw [mu_cell (by omega), mu_cell (by omega), mu_cell (by omega), mu_same]
    have e16 : E 88 16 = cn 0 := by
      rw [← hE, mu_cell (by omega), mu_same]; rfl
    have body : ∀ X : mG, (b1 (F_X12_next0 X) fun s11 => if cn r = 0 then b2 (F_X12_readsLaw s11) fun v15 s14 => F_X12_text_60 (cn r) v15 s14 else b2 (F_X12_readsRows s11) fun v33 s32 => F_X12_text_60 (cn r) v33 s32) = b2 (refBody (cn r) X) fun v s => F_X12_text_60 (cn r) v s := fun X => by
      unfold refBody
      rw [b2_b1]
      congr 1
      funext s11
      rw [b2_if]
    try dsimp only
    rw [body]
    clear hE
    have hq := S_read hr hlen hB h64 h9 hsh e95 e15 e11 e16
    intro τ hτ υ hυ
    obtain ⟨v3, s2, e3, hτ⟩ := m_b2 hτ
    obtain ⟨w3, t2, f3, hυ⟩ := m_b2 hυ
    have hw := W_X7_readText (M := 276665132308624310272) (z := a) sub_rfl KB_rfl (v3, s2) e3
    have hw : KB 276665132308624310272 a s2 := hw
    have wr := KB_rng hw (a := 0) (n := 55) (by decide +kernel)
    obtain ⟨q1, q2, q3, q4⟩ := hq (v3, s2) e3 (w3, t2) f3
    have q1 : v3 = w3 := q1
    obtain ⟨fr, fr3, fr4, frL⟩ := V_refBody hr hlen e15 e16 f3
    have g3 : t2.1 88 3 = b.1 88 3 := fr3.trans (cE 3 (by decide))
    have g4 : t2.1 88 4 = b.1 88 4 := fr4.trans (cE 4 (by decide))
    have g89 : t2.1 89 = b.1 89 := (fr 89 (by decide) (by decide)).trans (rE 89 (by decide))
    have g90 : t2.1 90 = b.1 90 := (fr 90 (by decide) (by decide)).trans (rE 90 (by decide))
    have g91 : t2.1 91 = b.1 91 := (fr 91 (by decide) (by decide)).trans (rE 91 (by decide))
    unfold F_X12_text_60 at hυ
    have row4 : ∀ j, j < 55 → ((mu s2.1 55 9 (ci 0), s2.2) : mG).1 j = a.1 j := fun j hj => (mu_rowQ (by omega)).trans (wr j (by omega) (by omega))
    by_cases hv : v3 = 0
    · rw [if_pos hv] at hτ
      rw [if_pos (q1 ▸ hv)] at hυ
      have hτ := Option.some.inj hτ
      have hυ := Option.some.inj hυ
      subst hτ; subst hυ
      refine SIM_same h (fun j hj => row4 j hj) ?_ ?_ ?_ ?_ ?_
      all_goals dsimp only
      · rw [mu_row (by decide), mu_row (by decide), mu_row (by decide)]; exact g89
      · rw [mu_row (by decide), mu_row (by decide), mu_row (by decide)]; exact g90
      · rw [mu_row (by decide), mu_row (by decide), mu_row (by decide)]; exact g91
      · rw [mu_cell (by decide), mu_cell (by decide), mu_cell (by decide)]; exact g3
      · rw [mu_cell (by decide), mu_cell (by decide), mu_cell (by decide)]; exact g4
    · rw [if_neg hv] at hτ
      have hw3 : ¬ w3 = 0 := fun e => hv (q1.trans e)
      rw [if_neg hw3] at hυ
      obtain ⟨z1, z2, m, B, i0, i1, i2⟩ := q4 hv
      have u15 : ∀ j, j ≠ 88 → ((mu t2.1 88 15 (ci 0), t2.2) : mG).1 j = t2.1 j := fun j hj => mu_rowQ hj
      have c15 : ∀ c, c ≠ 15 → ((mu t2.1 88 15 (ci 0), t2.2) : mG).1 88 c = t2.1 88 c := fun c hc => mu_cellQ (Or.inr hc)
      have e : r = 0 ∨ r = 1 ∨ r = 2 := by omega
      rcases e with e | e | e
      · subst e
        obtain ⟨nc, L, hSX, hLL⟩ := i0 rfl
        obtain ⟨y1, y2, y3, y4⟩ := hSX
        obtain ⟨l0, l1, l2, l3, l4, l5⟩ := hLL
        obtain ⟨⟨x0, x1⟩, x3, x13, xE, _⟩ := y3
        have ncb : nc ≤ 400 := by have := y1.2.1; have := y1.1.1; omega
        rw [if_pos (by decide)] at hτ hυ
        try dsimp only at hτ
        obtain ⟨s8, e8', hτ⟩ := m_b1 hτ
        obtain ⟨s10, e10, hτ⟩ := m_b1 hτ
        have hτ := Option.some.inj hτ
        subst hτ
        obtain ⟨v23, s22, e22, hυ⟩ := m_b2 hυ
        have hυ := Option.some.inj hυ
        subst hυ
        have m55 : ∀ j, j ≠ 55 → ((mu s2.1 55 9 (ci 0), s2.2) : mG).1 j = s2.1 j := fun j hj => mu_rowQ hj
        obtain ⟨c1, c2, c3, c4, c5, c6⟩ := V_copy (t := 6) (a := 56) (n := L) (m := 16) (W := 4) (by omega) (by rw [row4 6 (by omega)]; exact sh.2.2.1.1) (by rw [m55 56 (by decide)]; exact l3) (by rw [row4 6 (by omega)]; exact sh.2.2.1.2.1) l0 (by decide) (by rw [show m_alen (6 + 1) = 64 by decide +kernel]; omega) (by rw [show m_alen (56 + 1) = 64 by decide +kernel]; omega) (by decide) s8 e8'
        have s88 : s8.1 8 = a.1 8 := (c2 8 (by omega) (by omega)).trans (row4 8 (by omega))
        have s858 : s8.1 58 = s2.1 58 := (c2 58 (by omega) (by omega)).trans (m55 58 (by decide))
        have s859 : s8.1 59 = s2.1 59 := (c2 59 (by omega) (by omega)).trans (m55 59 (by decide))
        obtain ⟨d1, d2, d3, d4, d5, d6⟩ := V_copy (t := 8) (a := 58) (n := nc) (m := 400) (W := 1) (by omega) (by rw [s88]; exact sh.2.2.2.1.1) (by rw [s858]; exact x3) (by rw [s88]; exact sh.2.2.2.1.2.1) ncb (by decide) (by rw [show m_alen (8 + 1) = 400 by decide +kernel]; omega) (by rw [show m_alen (58 + 1) = 400 by decide +kernel]; omega) (by decide) s10 e10
        have hl12 : ((mu t2.1 88 15 (ci 0), t2.2) : mG).1 88 12 = cn L := (c15 12 (by decide)).trans l4
        have hl13 : ((mu t2.1 88 15 (ci 0), t2.2) : mG).1 88 13 = cn nc := (c15 13 (by decide)).trans (by simpa using x13)
        obtain ⟨p1, w, pw, p2, p3⟩ := E_putsLaw l0 ncb hl12 hl13 (v23, s22) e22
        obtain ⟨pr, p117, pc, po⟩ := pw
        have p2 : ∀ j, j ≠ 89 → s22.1 j = ((mu t2.1 88 15 (ci 0), t2.2) : mG).1 j := p2
        have p3 : s22.1 89 = ovr 1050 (2 * nc) (((mu t2.1 88 15 (ci 0), t2.2) : mG).1 93) (w.1 89) := p3
        have r93 : ((mu t2.1 88 15 (ci 0), t2.2) : mG).1 93 = t2.1 93 := u15 93 (by decide)
        have r92 : ((mu t2.1 88 15 (ci 0), t2.2) : mG).1 92 = t2.1 92 := u15 92 (by decide)
        rw [r93] at p3
        have hls := frL rfl hw3
        refine SIM_law (u := s10) (t := s22) (L := L) (nc := nc) (cc := s2.1 57) (dd := t2.1 92) (ee := s2.1 59) (ff := t2.1 93) h l0 ncb (fun j hj a1 a2 a3 a4 => ?_) (fun c hc => ?_) ?_ (fun j hj => ?_) (fun c hc => ?_) ?_ (fun j hj => ?_) l5 xE ?_ (fun j hj => ?_) (fun j hj => ?_) (fun k hk1 hk2 => ?_) (fun i hi => ?_) ?_ ?_ ?_ ?_
        · rw [d2 j a3 a4, c2 j a1 a2, row4 j hj]
        · rw [d2 6 (by decide) (by decide), c3 c hc, row4 6 (by decide)]
        · rw [d2 6 (by decide) (by decide), c4, m55 56 (by decide)]; exact l3
        · rw [d2 7 (by decide) (by decide)]
          exact (c5 j hj).trans (congrFun (m55 57 (by decide)) j)
        · rw [d3 c hc, s88]
        · rw [d4, s858]; exact x3
        · exact (d5 j hj).trans (congrFun s859 j)
        · rw [p3, ovr_lo (by omega)]; exact p117
        · obtain ⟨z1, z2, z3, z4⟩ := pc j hj
          rw [r92] at z1 z2 z3 z4
          rw [p3, ovr_lo (by omega), ovr_lo (by omega), ovr_lo (by omega), ovr_lo (by omega)]
          exact ⟨z1, z2, z3, z4⟩
        · rw [p3, ovr_in hj]
        · rw [p3, ovr_lo (by omega), po k hk1 (by omega), u15 89 (by decide), g89]
        · obtain ⟨_, w2, w4, w5⟩ := hls
          have tl : (t2.1 88 12).toInt = (L : Int) := by rw [l4]; exact t_cn (by omega)
          obtain ⟨x, y, c, o1, o2, o3, o4, o5, o6, o7, o8⟩ := w5 i (by omega)
          have tn : (t2.1 88 13).toInt = (nc : Int) := by
            rw [show t2.1 88 13 = cn nc by simpa using x13]
            exact t_cn (by omega)
          exact ⟨x, y, c, o2, o3, by omega, o4, o5, o6, o7, o8⟩
        · exact (p2 90 (by decide)).trans ((u15 90 (by decide)).trans g90)
        · exact (p2 91 (by decide)).trans ((u15 91 (by decide)).trans g91)
        · exact (congrFun (p2 88 (by decide)) 3).trans ((c15 3 (by decide)).trans g3)
        · exact (congrFun (p2 88 (by decide)) 4).trans ((c15 4 (by decide)).trans g4)
      · subst e
        obtain ⟨y1, y2, R, l0, l1, l2, l3, l4, l5⟩ := i1 rfl
        rw [if_neg (by decide)] at hτ hυ
        unfold F_X5_forget at hτ
        try dsimp only at hτ
        rw [b1_some, if_pos (by decide)] at hτ
        rw [if_pos (by decide)] at hυ
        obtain ⟨s15, e15', hτ⟩ := m_b1 hτ
        obtain ⟨s17, e17, hτ⟩ := m_b1 hτ
        have hτ := Option.some.inj hτ
        subst hτ
        obtain ⟨v27, s26, e26, hυ⟩ := m_b2 hυ
        have hυ := Option.some.inj hυ
        subst hυ
        have x35 : ∀ j, j ≠ 35 → j < 55 → ((mu (mu s2.1 55 9 (ci 0)) 35 1 (ci 0), s2.2) : mG).1 j = a.1 j := fun j h1 h2 => (mu_rowQ h1).trans (row4 j h2)
        have x6 : ∀ j, j ≠ 35 → j ≠ 55 → ((mu (mu s2.1 55 9 (ci 0)) 35 1 (ci 0), s2.2) : mG).1 j = s2.1 j := fun j h1 h2 => (mu_rowQ h1).trans (mu_row h2)
        have y35 : ((mu (mu s2.1 55 9 (ci 0)) 35 1 (ci 0), s2.2) : mG).1 35 1 = ci 0 := mu_sameQ
        have y36 : ((mu (mu s2.1 55 9 (ci 0)) 35 1 (ci 0), s2.2) : mG).1 35 2 = a.1 35 2 := (mu_cellQ (by decide)).trans (congrFun (row4 35 (by decide)) 2)
        generalize ((mu (mu s2.1 55 9 (ci 0)) 35 1 (ci 0), s2.2) : mG) = s0' at *
        obtain ⟨c1, c2, c3, c4, c5, c6⟩ := V_copy (t := 10) (a := 60) (n := R) (m := 6) (W := 2) (by omega) (by rw [x35 10 (by decide) (by decide)]; exact sh.2.2.2.2.1.1) (by rw [x6 60 (by decide) (by decide)]; exact l3) (by rw [x35 10 (by decide) (by decide)]; exact sh.2.2.2.2.1.2.1) l0 (by decide) (by rw [show m_alen (10 + 1) = 12 by decide +kernel]; omega) (by rw [show m_alen (60 + 1) = 12 by decide +kernel]; omega) (by decide) s15 e15'
        have s152 : s15.1 2 = a.1 2 := (c2 2 (by decide) (by decide)).trans (x35 2 (by decide) (by decide))
        obtain ⟨d1, d2⟩ := V_forgetSeenE (n := n) (by rw [s152]; exact sh.1.2.1) (by rw [s152]; exact e2) hn s17 e17
        have hl14 : ((mu t2.1 88 15 (ci 0), t2.2) : mG).1 88 14 = cn R := (c15 14 (by decide)).trans l4
        obtain ⟨p1, p2, p3, p4, p5⟩ := E_putsSigns l0 hl14 (v27, s26) e26
        have p2 : ∀ j, j ≠ 88 → j ≠ 89 → s26.1 j = ((mu t2.1 88 15 (ci 0), t2.2) : mG).1 j := p2
        have p3 : ∀ c, c ≠ 3 → s26.1 88 c = ((mu t2.1 88 15 (ci 0), t2.2) : mG).1 88 c := p3
        have p5 : s26.1 89 = ovr 39 72 (fun _ => ci (-1)) (ovr 143 (2 * R) (((mu t2.1 88 15 (ci 0), t2.2) : mG).1 94) (mu ((mu t2.1 88 15 (ci 0), t2.2) : mG).1 89 115 (cn R) 89)) := p5
        have e89 : mu ((mu t2.1 88 15 (ci 0), t2.2) : mG).1 89 115 (cn R) 89 = mu b.1 89 115 (cn R) 89 := by
          funext k
          rw [mu_ap, mu_ap, u15 89 (by decide), g89]
        rw [e89, u15 94 (by decide)] at p5
        refine SIM_signs (u := s17) (t := s26) (R := R) (cc := t2.1 94) h l0 (fun j hj a1 a2 a3 a4 => ?_) (fun c hc => ?_) ?_ (fun j hj => ?_) ?_ ?_ (fun n' hn' e2' r c hr hc => ?_) p4 ?_ ?_ p5
        · rw [d1 j a1, c2 j a2 a3, x35 j a4 hj]
        · rw [d1 10 (by decide), c3 c hc, x35 10 (by decide) (by decide)]
        · rw [d1 10 (by decide), c4, x6 60 (by decide) (by decide)]; exact l3
        · rw [d1 11 (by decide)]
          exact (c5 j hj).trans ((congrFun (x6 61 (by decide) (by decide)) j).trans (l5 j (by omega)))
        · rw [d1 35 (by decide), c2 35 (by decide) (by decide)]; exact y35
        · rw [d1 35 (by decide), c2 35 (by decide) (by decide)]; exact y36
        · have en : n' = n := (cn_inj (by omega) (by omega)).mp (e2'.symm.trans e2)
          rw [d2 r c (by omega) hc, c2 3 (by decide) (by decide), x35 3 (by decide) (by decide)]
        · exact (p3 4 (by decide)).trans ((c15 4 (by decide)).trans g4)
        · exact (p2 90 (by decide) (by decide)).trans ((u15 90 (by decide)).trans g90)
      · subst e
        obtain ⟨y1, y2, R, l0, l1, l2, l3, l4, l5⟩ := i2 rfl
        rw [if_neg (by decide)] at hτ hυ
        unfold F_X5_forget at hτ
        try dsimp only at hτ
        rw [b1_some, if_neg (by decide)] at hτ
        rw [if_neg (by decide)] at hυ
        obtain ⟨s15, e15', hτ⟩ := m_b1 hτ
        have hτ := Option.some.inj hτ
        subst hτ
        obtain ⟨v27, s26, e26, hυ⟩ := m_b2 hυ
        have hυ := Option.some.inj hυ
        subst hυ
        have x35 : ∀ j, j ≠ 35 → j < 55 → ((mu (mu s2.1 55 9 (ci 0)) 35 1 (ci 0), s2.2) : mG).1 j = a.1 j := fun j h1 h2 => (mu_rowQ h1).trans (row4 j h2)
        have x6 : ∀ j, j ≠ 35 → j ≠ 55 → ((mu (mu s2.1 55 9 (ci 0)) 35 1 (ci 0), s2.2) : mG).1 j = s2.1 j := fun j h1 h2 => (mu_rowQ h1).trans (mu_row h2)
        have y35 : ((mu (mu s2.1 55 9 (ci 0)) 35 1 (ci 0), s2.2) : mG).1 35 1 = ci 0 := mu_sameQ
        have y36 : ((mu (mu s2.1 55 9 (ci 0)) 35 1 (ci 0), s2.2) : mG).1 35 2 = a.1 35 2 := (mu_cellQ (by decide)).trans (congrFun (row4 35 (by decide)) 2)
        generalize ((mu (mu s2.1 55 9 (ci 0)) 35 1 (ci 0), s2.2) : mG) = s0' at *
        obtain ⟨c1, c2, c3, c4, c5, c6⟩ := V_copy (t := 12) (a := 62) (n := R) (m := 12) (W := 4) (by omega) (by rw [x35 12 (by decide) (by decide)]; exact sh.2.2.2.2.2.1.1) (by rw [x6 62 (by decide) (by decide)]; exact l3) (by rw [x35 12 (by decide) (by decide)]; exact sh.2.2.2.2.2.1.2.1) l0 (by decide) (by rw [show m_alen (12 + 1) = 48 by decide +kernel]; omega) (by rw [show m_alen (62 + 1) = 48 by decide +kernel]; omega) (by decide) s15 e15'
        have hl14 : ((mu t2.1 88 15 (ci 0), t2.2) : mG).1 88 14 = cn R := (c15 14 (by decide)).trans l4
        obtain ⟨p1, p2, p3, p4, p5⟩ := E_putsShifts l0 hl14 (v27, s26) e26
        have p2 : ∀ j, j ≠ 88 → j ≠ 89 → s26.1 j = ((mu t2.1 88 15 (ci 0), t2.2) : mG).1 j := p2
        have p3 : ∀ c, c ≠ 3 → s26.1 88 c = ((mu t2.1 88 15 (ci 0), t2.2) : mG).1 88 c := p3
        have p5 : s26.1 89 = ovr 155 (4 * R) (((mu t2.1 88 15 (ci 0), t2.2) : mG).1 94) (mu ((mu t2.1 88 15 (ci 0), t2.2) : mG).1 89 116 (cn R) 89) := p5
        have e89 : mu ((mu t2.1 88 15 (ci 0), t2.2) : mG).1 89 116 (cn R) 89 = mu b.1 89 116 (cn R) 89 := by
          funext k
          rw [mu_ap, mu_ap, u15 89 (by decide), g89]
        rw [e89, u15 94 (by decide)] at p5
        refine SIM_shifts (u := s15) (t := s26) (R := R) (cc := t2.1 94) h l0 (fun j hj a1 a2 a3 => ?_) (fun c hc => ?_) ?_ (fun j hj => ?_) ?_ ?_ p4 ?_ ?_ p5
        · rw [c2 j a1 a2, x35 j a3 hj]
        · rw [c3 c hc, x35 12 (by decide) (by decide)]
        · rw [c4, x6 62 (by decide) (by decide)]; exact l3
        · exact (c5 j hj).trans ((congrFun (x6 63 (by decide) (by decide)) j).trans (l5 j (by omega)))
        · rw [c2 35 (by decide) (by decide)]; exact y35
        · rw [c2 35 (by decide) (by decide)]; exact y36
        · exact (p3 4 (by decide)).trans ((c15 4 (by decide)).trans g4)
        · exact (p2 90 (by decide) (by decide)).trans ((u15 90 (by decide)).trans g90)
end
end
/-! 5zh.calls -/
section
noncomputable section
/-! ALL THAT STANDS BETWEEN CALLS -/
def JS (s : mG) : Prop := JL2 s ∧ SIM s s
theorem SIM_C {a b : mG} (h : SIM a b) (k : ∀ j, 88 ≤ j → b.1 j = a.1 j) {u : mG} (q : ∀ j, 88 ≤ j → u.1 j = a.1 j) : SIM a u :=
  SIM_same h (fun _ _ => rfl) ((q 89 (by decide)).trans (k 89 (by decide)).symm) ((q 90 (by decide)).trans (k 90 (by decide)).symm) ((q 91 (by decide)).trans (k 91 (by decide)).symm) (congrFun ((q 88 (by decide)).trans (k 88 (by decide)).symm) 3) (congrFun ((q 88 (by decide)).trans (k 88 (by decide)).symm) 4)
/-- a call that tells something -/
theorem P4_of {F G : mG → Option (Int32 × mG)} {s : mG} (h : JS s) (hC : ok (F s) (fun τ => JL2 τ.2 ∧ ∀ j, 88 ≤ j → τ.2.1 j = s.1 j)) (hM : ∀ u, JL2 u → ok (G u) (fun υ => JL2 υ.2 ∧ ∀ j, j < 88 → υ.2.1 j = u.1 j)) (hR : ∀ u, SIM s u → rel (F s) (G u) (fun τ υ => τ.1 = υ.1 ∧ SIM τ.2 υ.2)) : ok (F s) (fun τ => ok (G τ.2) (fun υ => JS υ.2 ∧ τ.1 = υ.1)) := by
  obtain ⟨τ, e1, k1, k2⟩ := hC
  obtain ⟨υ, e2, m1, m2⟩ := hM τ.2 k1
  obtain ⟨r1, r2⟩ := hR τ.2 (SIM_C h.2 (fun _ _ => rfl) k2) τ e1 υ e2
  exact ⟨τ, e1, υ, e2, ⟨m1, SIM_same r2 (fun j hj => m2 j (by omega)) rfl rfl rfl rfl rfl⟩, r1⟩
/-- a call that thinks -/
theorem P5_of {F G : mG → Option (Int32 × mG)} {s : mG} (h : JS s) (hC : ok (F s) (fun τ => JS τ.2 ∧ ∀ j, 88 ≤ j → τ.2.1 j = s.1 j)) (hM : ∀ u, JS u → ok (G u) (fun υ => JS υ.2)) (hR : ∀ u, IM u → SIM s u → rel (F s) (G u) (fun τ υ => τ.1 = υ.1)) : ok (F s) (fun τ => ok (G τ.2) (fun υ => JS υ.2 ∧ τ.1 = υ.1)) := by
  obtain ⟨τ, e1, k1, k2⟩ := hC
  obtain ⟨υ, e2, m1⟩ := hM τ.2 k1
  exact ⟨τ, e1, υ, e2, m1, hR τ.2 k1.1.2.1 (SIM_C h.2 (fun _ _ => rfl) k2) τ e1 υ e2⟩
/-- a call that looks alone -/
theorem P6_of {α : Type} {F : mG → Option α} {G : mG → Option α} {P Q : α → Prop} {s : mG} (hC : ok (F s) P) (hM : ok (G s) Q) (hR : rel (F s) (G s) (fun u v => u = v)) : ok (F s) (fun u => ok (G s) (fun v => u = v)) := by
  obtain ⟨u, e1, _⟩ := hC
  obtain ⟨v, e2, _⟩ := hM
  exact ⟨u, e1, v, e2, hR u e1 v e2⟩
theorem P4_text {a1 : Int32} {s : mG} (h : JS s) : ok (F_X11_text a1 s) (fun τ => ok (F_X12_text a1 τ.2) (fun υ => JS υ.2 ∧ τ.1 = υ.1)) := by
  obtain ⟨τ, e1, υ, e2, hJ, he⟩ := P2_text (a1 := a1) h.1
  obtain ⟨hI, hM, hC, l, h1, h2, h3, h4, h5, h6⟩ := h.1
  obtain ⟨τ', e3, k1, _⟩ := T_X11_text (a1 := a1) hI
  have ee := Option.some.inj (e3.symm.trans e1)
  subst ee
  obtain ⟨υ', e4, m1, _⟩ := T_X12_text (a1 := a1) (IM_rows k1.2.1 hM)
  have ee := Option.some.inj (e4.symm.trans e2)
  subst ee
  have S := R_text (T := s.1 64) (len := l) (a1 := a1) (a := s) (b := τ'.2) (SIM_C h.2 (fun _ _ => rfl) k1.2.1) h1 (fun k hk => (h4 k hk).2) rfl h2 (CT_RS hC) (fun k hk => by rw [k1.2.1 95 (by decide)]; exact (h4 k hk).1) (by rw [k1.2.1 88 (by decide)]; exact h3) τ' e1 υ' e2
  exact ⟨τ', e1, υ', e2, ⟨hJ, SIM_same S (fun j hj => m1.2.1 j (by omega)) rfl rfl rfl rfl rfl⟩, he⟩
theorem P4_feed {a1 a2 a3 a4 a5 : Int32} {s : mG} (h : JS s) : ok (F_X11_feed a1 a2 a3 a4 a5 s) (fun τ => ok (F_X12_feed a1 a2 a3 a4 a5 τ.2) (fun υ => JS υ.2 ∧ True)) := by
  obtain ⟨τ, e1, υ, e2, hJ, _⟩ := P2_feed (a1 := a1) (a2 := a2) (a3 := a3) (a4 := a4) (a5 := a5) h.1
  obtain ⟨hI, hM, hC, l, h1, h2, h3, h4, h5, h6⟩ := h.1
  obtain ⟨τ', e3, k1, _⟩ := T_X11_feed (a1 := a1) (a2 := a2) (a3 := a3) (a4 := a4) (a5 := a5) hI
  have ee := Option.some.inj (e3.symm.trans e1)
  subst ee
  obtain ⟨υ', e4, m1, _⟩ := T_X12_feed (a1 := a1) (a2 := a2) (a3 := a3) (a4 := a4) (a5 := a5) (IM_rows k1.2.1 hM)
  have ee := Option.some.inj (e4.symm.trans e2)
  subst ee
  have w := W_X11_feed (M := 18482772870728515584) (z := s) sub_rfl KB_rfl τ' e1
  have w : KB 18482772870728515584 s τ'.2 := w
  have wr := KB_rng w (a := 0) (n := 55) (by decide +kernel)
  have t15 : τ'.2.1 88 15 = cn l := by rw [k1.2.1 88 (by decide)]; exact h3
  have d := V_feedR t15 h1 υ' e2
  have f : υ'.2.1 89 = τ'.2.1 89 ∧ υ'.2.1 90 = τ'.2.1 90 ∧ υ'.2.1 91 = τ'.2.1 91 ∧ υ'.2.1 88 3 = τ'.2.1 88 3 ∧ υ'.2.1 88 4 = τ'.2.1 88 4 := by
    rcases d with ⟨_, _, d2, d3, _, _⟩ | ⟨_, d1⟩
    · exact ⟨d2 89 (by decide) (by decide), d2 90 (by decide) (by decide), d2 91 (by decide) (by decide), d3 3 (by decide), d3 4 (by decide)⟩
    · rw [d1]; exact ⟨rfl, rfl, rfl, rfl, rfl⟩
  refine ⟨τ', e1, υ', e2, ⟨hJ, SIM_same h.2 (fun j hj => (m1.2.1 j (by omega)).trans (wr j (by omega) (by omega))) (f.1.trans (k1.2.1 89 (by decide))) (f.2.1.trans (k1.2.1 90 (by decide))) (f.2.2.1.trans (k1.2.1 91 (by decide))) (f.2.2.2.1.trans (congrFun (k1.2.1 88 (by decide)) 3)) (f.2.2.2.2.trans (congrFun (k1.2.1 88 (by decide)) 4))⟩, trivial⟩
theorem P4_end {a1 : Int32} {s : mG} (h : JS s) : ok (F_X11_end a1 s) (fun τ => ok (F_X12_end a1 τ.2) (fun υ => JS υ.2 ∧ True)) := by
  obtain ⟨τ, e1, υ, e2, hJ, _⟩ := P2_end (a1 := a1) h.1
  obtain ⟨hI, hM, hC, l, h1, h2, h3, h4, h5, h6⟩ := h.1
  have c := e1
  have d := e2
  rw [V_endC] at c
  rw [V_endR] at d
  have fc : (∀ j, j ≠ 55 → τ.2.1 j = s.1 j) := by
    by_cases q : wi a1 (ci 0) (s.1 55 9) = 0
    · rw [if_pos q] at c
      rw [← Option.some.inj c]
      exact fun _ _ => rfl
    · rw [if_neg q] at c
      rw [← Option.some.inj c]
      exact fun j hj => mu_row hj
  have fd : (∀ j, j ≠ 88 → υ.2.1 j = τ.2.1 j) ∧ ∀ c, c ≠ 15 → υ.2.1 88 c = τ.2.1 88 c := by
    by_cases q : wi a1 (ci 0) (τ.2.1 88 15) = 0
    · rw [if_pos q] at d
      rw [← Option.some.inj d]
      exact ⟨fun _ _ => rfl, fun _ _ => rfl⟩
    · rw [if_neg q] at d
      rw [← Option.some.inj d]
      exact ⟨fun j hj => mu_rowQ hj, fun c hc => mu_cellQ (Or.inr hc)⟩
  refine ⟨τ, e1, υ, e2, ⟨hJ, SIM_same h.2 (fun j hj => (fd.1 j (by omega)).trans (fc j (by omega))) ((fd.1 89 (by decide)).trans (fc 89 (by decide))) ((fd.1 90 (by decide)).trans (fc 90 (by decide))) ((fd.1 91 (by decide)).trans (fc 91 (by decide))) ((fd.2 3 (by decide)).trans (congrFun (fc 88 (by decide)) 3)) ((fd.2 4 (by decide)).trans (congrFun (fc 88 (by decide)) 4))⟩, trivial⟩
/-! the start -/
theorem s0_sim1 : s0.1 88 3 = 0 ∧ s0.1 88 4 = 0 ∧ s0.1 0 2 = 0 ∧ s0.1 35 1 = 0 ∧ s0.1 35 2 = 0 ∧ s0.1 1 8 = s0.1 89 113 ∧ s0.1 1 9 = s0.1 89 114 ∧ s0.1 1 10 = s0.1 89 0 ∧ s0.1 1 11 = s0.1 89 1 ∧ s0.1 89 0 = 0 := s0_b4
theorem s0_tabs : ∀ p ∈ ([(2, 11, 12), (4, 5, 150), (6, 4, 16), (8, 1, 400), (10, 2, 6), (12, 4, 12), (14, 4, 8), (16, 3, 8), (19, 11, 12), (21, 5, 150), (31, 4, 8), (33, 3, 8)] : List (Nat × Nat × Nat)), s0.1 p.1 0 = cn p.2.2 ∧ s0.1 p.1 1 = cn p.2.1 ∧ s0.1 p.1 3 = 0 := s0_b5
theorem s0_cnts : ∀ k ∈ ([2, 112, 115, 116, 117, 118, 1049] : List Nat), s0.1 89 k = 0 := s0_b6
theorem s0_mom : ∀ i, i < 6 → s0.1 (37 + 3 * i + 1) 0 = cn 12 ∧ s0.1 (37 + 3 * i + 1) 1 = cn 11 ∧ s0.1 (37 + 3 * i + 1) 3 = 0 := s0_b7
theorem cn_00 : (0 : Int32) = cn 0 := by decide
/-- all that the start says of tables, counts, moments -/
def Z0t (s : mG) : Prop := ∀ p ∈ ([(2, 11, 12), (4, 5, 150), (6, 4, 16), (8, 1, 400), (10, 2, 6), (12, 4, 12), (14, 4, 8), (16, 3, 8), (19, 11, 12), (21, 5, 150), (31, 4, 8), (33, 3, 8)] : List (Nat × Nat × Nat)), s.1 p.1 0 = cn p.2.2 ∧ s.1 p.1 1 = cn p.2.1 ∧ s.1 p.1 3 = 0
def Z0c (s : mG) : Prop := ∀ k ∈ ([2, 112, 115, 116, 117, 118, 1049] : List Nat), s.1 89 k = 0
theorem Z0_t {s : mG} (T : Z0t s) {t W M : Nat} (hp : (t, W, M) ∈ ([(2, 11, 12), (4, 5, 150), (6, 4, 16), (8, 1, 400), (10, 2, 6), (12, 4, 12), (14, 4, 8), (16, 3, 8), (19, 11, 12), (21, 5, 150), (31, 4, 8), (33, 3, 8)] : List (Nat × Nat × Nat))) : s.1 t 0 = cn M ∧ s.1 t 1 = cn W ∧ s.1 t 3 = 0 := T (t, W, M) hp
theorem TW_of {s : mG} (T : Z0t s) (C : Z0c s) {t W M cnt : Nat} {ix : Nat → Nat → Nat} (hp : (t, W, M) ∈ ([(2, 11, 12), (4, 5, 150), (6, 4, 16), (8, 1, 400), (10, 2, 6), (12, 4, 12), (14, 4, 8), (16, 3, 8), (19, 11, 12), (21, 5, 150), (31, 4, 8), (33, 3, 8)] : List (Nat × Nat × Nat))) (hc : cnt ∈ ([2, 112, 115, 116, 117, 118, 1049] : List Nat)) : TWr t W M cnt ix s.1 (s.1 89) := by
  obtain ⟨h1, h2, h3⟩ := Z0_t T hp
  exact ⟨h1, h2, 0, Nat.zero_le _, h3.trans cn_00, (C cnt hc).trans cn_00, fun r c hr => absurd hr (by omega)⟩
theorem TS_of {s : mG} (T : Z0t s) {t W M : Nat} (hp : (t, W, M) ∈ ([(2, 11, 12), (4, 5, 150), (6, 4, 16), (8, 1, 400), (10, 2, 6), (12, 4, 12), (14, 4, 8), (16, 3, 8), (19, 11, 12), (21, 5, 150), (31, 4, 8), (33, 3, 8)] : List (Nat × Nat × Nat))) : TS t W M s := by
  obtain ⟨h1, h2, h3⟩ := Z0_t T hp
  exact ⟨h1, h2, 0, Nat.zero_le _, h3.trans cn_00⟩
theorem SIM_of {s : mG} (z : s.1 88 3 = 0 ∧ s.1 88 4 = 0 ∧ s.1 0 2 = 0 ∧ s.1 35 1 = 0 ∧ s.1 35 2 = 0 ∧ s.1 1 8 = s.1 89 113 ∧ s.1 1 9 = s.1 89 114 ∧ s.1 1 10 = s.1 89 0 ∧ s.1 1 11 = s.1 89 1 ∧ s.1 89 0 = 0) (T : Z0t s) (C : Z0c s) (Mo : ∀ i, i < 6 → s.1 (37 + 3 * i + 1) 0 = cn 12 ∧ s.1 (37 + 3 * i + 1) 1 = cn 11 ∧ s.1 (37 + 3 * i + 1) 3 = 0) : SIM s s := by
  obtain ⟨z3, z4, z02, z35, z352, y8, y9, y10, y11, z0⟩ := z
  have t2 := (Z0_t T (t := 2) (W := 11) (M := 12) (by decide)).2.2
  have t4 := (Z0_t T (t := 4) (W := 5) (M := 150) (by decide)).2.2
  obtain ⟨l0, l1, l3⟩ := Z0_t T (t := 6) (W := 4) (M := 16) (by decide)
  obtain ⟨c0, c1, c3⟩ := Z0_t T (t := 8) (W := 1) (M := 400) (by decide)
  have w117 : s.1 89 117 = 0 := C 117 (by decide)
  refine ⟨⟨0, 0, 0, by omega, by omega, t2.trans cn_00, t4.trans cn_00, c3.trans cn_00, ⟨TW_of T C (by decide) (by decide), TW_of T C (by decide) (by decide), ⟨l0, l1, 0, by omega, l3.trans cn_00, w117.trans cn_00, fun r hr => absurd hr (by omega)⟩, ⟨c0, c1, 0, by omega, c3.trans cn_00, fun j hj => absurd hj (by omega)⟩, TW_of T C (by decide) (by decide), TW_of T C (by decide) (by decide), TW_of T C (by decide) (by decide), TW_of T C (by decide) (by decide), y8, y9, y10, y11⟩, ⟨by omega, 0, by omega, w117.trans cn_00, fun r hr => absurd hr (by omega)⟩, ⟨?_, ?_, fun g hg => absurd hg (by omega)⟩⟩, ⟨0, 0, 0, 0, fun _ => 0, by omega, by omega, by omega, by omega, z35.trans cn_00, z352.trans cn_00, z3.trans cn_00, t2.trans cn_00, t4.trans cn_00, fun i hi => absurd hi (by omega), fun i hi => absurd hi (by omega), fun i hi => ⟨(Mo i hi).1, (Mo i hi).2.1, 0, by omega, (Mo i hi).2.2.trans cn_00⟩, fun i hi => absurd hi (by omega)⟩, Or.inl z4, z02.trans z4.symm, ⟨TS_of T (by decide), TS_of T (by decide), TS_of T (by decide), TS_of T (by decide)⟩, fun hne => absurd z4 hne⟩
  · rw [z0, t_zero]; omega
  · rw [z0, t_zero]; omega
theorem SIM_s0 : SIM s0 s0 := SIM_of s0_sim1 s0_tabs s0_cnts s0_mom
end
end
/-! 5zi1.look -/
section
noncomputable section
/-! WHAT IS ONLY LOOKED UP -/
theorem SIM_f {s : mG} (h : SIM s s) : ∃ n nb nc, n ≤ 12 ∧ nb ≤ 150 ∧ s.1 2 3 = cn n ∧ s.1 4 3 = cn nb ∧ s.1 8 3 = cn nc ∧ HSr 1 s.1 (s.1 89) ∧ LTy nc (s.1 89) ∧ VIm n (s.1 89) ∧ s.1 89 112 = cn n ∧ s.1 89 2 = cn nb := by
  obtain ⟨⟨n, nb, nc, hn, hnb, e2, e4, e8, H, L, V⟩, _⟩ := h
  obtain ⟨_, ⟨_, _, m, hm, g3, gc, _⟩, _⟩ := id H
  exact ⟨n, nb, nc, hn, hnb, e2, e4, e8, H, L, V, SIM_n H e2, gc.trans (g3.symm.trans e4)⟩
theorem wi_igB {a n : Int32} (h : 0 ≤ n.toInt ∧ n.toInt ≤ 150) : wi a (ci 0) (n - ci 1) = ig a n := by
  have e : (n - ci 1).toInt = n.toInt - 1 := r_sub rfl (by decide : (ci 1).toInt = 1) (by omega) (by omega)
  have z : ci 0 = 0 := by decide
  have q : (n - ci 1 < a) = (n ≤ a) := by
    rw [Int32.lt_iff_toInt_lt, Int32.le_iff_toInt_le, e]
    exact propext ⟨fun h => by omega, fun h => by omega⟩
  unfold wi ig
  rw [z]
  by_cases h1 : a < 0
  · rw [if_pos h1, if_pos h1]
  · rw [if_neg h1, if_neg h1]
    by_cases h2 : n ≤ a
    · rw [if_pos h2, if_pos (q ▸ h2)]
    · rw [if_neg h2, if_neg (fun k => h2 (q ▸ k))]
theorem al_11 : 6 * 2 ≤ m_alen (10 + 1) := by decide +kernel
theorem V_atB {w : Nat → Int32} {s : mG} {nb r c : Nat} {k : Int32} (hB : TWr 4 5 150 2 ixB s.1 w) (h3 : s.1 4 3 = cn nb) (hn : nb ≤ 150) (hr : r < nb) (hc : c < 5) (hk : k = cn c) : F_X10_at 4 s (cn r) k = some (w (ixB r c)) := TWr_at hB h3 hn hr hc rfl hk (by decide) (by rw [al_5]; decide)
theorem V_atS {w : Nat → Int32} {s : mG} {n r c : Nat} {k : Int32} (hS : TWr 10 2 6 115 ixS s.1 w) (h3 : s.1 10 3 = cn n) (hn : n ≤ 6) (hr : r < n) (hc : c < 2) (hk : k = cn c) : F_X10_at 10 s (cn r) k = some (w (ixS r c)) := TWr_at hS h3 hn hr hc rfl hk (by decide) al_11
theorem ei_B {r c : Nat} (h : 235 + 5 * r + c < 2147483648) : c16 235 + ci 5 * cn r + cn c = cn (235 + 5 * r + c) := by
  rw [show ci 5 * cn r = cn (5 * r) from cn_mul (a := 5) (by omega) (by omega) (by omega), show c16 235 + cn (5 * r) = cn (235 + 5 * r) from cn_add (a := 235) (by omega), cn_add h]
theorem ei_S {r c : Nat} (h : 143 + 2 * r + c < 2147483648) : c16 143 + ci 2 * cn r + cn c = cn (143 + 2 * r + c) := by
  rw [show ci 2 * cn r = cn (2 * r) from cn_mul (a := 2) (by omega) (by omega) (by omega), show c16 143 + cn (2 * r) = cn (143 + 2 * r) from cn_add (a := 143) (by omega), cn_add h]
theorem ei_G {g c : Nat} (h : 39 + 6 * g + c < 2147483648) : c8 39 + c8 6 * cn g + cn c = cn (39 + 6 * g + c) := by
  rw [show c8 6 * cn g = cn (6 * g) from cn_mul (a := 6) (by omega) (by omega) (by omega), show c8 39 + cn (6 * g) = cn (39 + 6 * g) from cn_add (a := 39) (by omega), cn_add h]
theorem ixG_5 {g c : Nat} : ixG g (5 + c) = 39 + 6 * g + c := by
  unfold ixG
  rw [if_neg (by omega), if_neg (by omega), if_neg (by omega), if_neg (by omega), if_neg (by omega)]
  omega
theorem R_hook {s : mG} {x : Int32} (_ : IM s) (h : SIM s s) : rel (F_X11_hook s x) (F_X12_hook s x) (fun u v => u = v) := by
  obtain ⟨n, nb, nc, hn, hnb, e2, e4, e8, H, L, V, g2, g4⟩ := SIM_f h
  unfold F_X11_hook F_X12_hook
  rw [V_isGuest, V_isGuestR g2 hn, b1_some, b1_some, show s.1 (1 + 1) 3 = cn n from e2]
  exact rel_ifs Iff.rfl (fun _ => rel_some rfl) (fun _ => rel_b1 (R_keyOn H e2 hn) (fun u v e => rel_some e))
end
end
/-! 5zi2.look -/
section
noncomputable section
theorem R_sign {s : mG} {x y : Int32} (_ : IM s) (h : SIM s s) : rel (F_X11_sign s x y) (F_X12_sign s x y) (fun u v => u = v) := by
  obtain ⟨n, nb, nc, hn, hnb, e2, e4, e8, H, L, V, g2, g4⟩ := SIM_f h
  have HS := H.2.2.2.2.1
  obtain ⟨_, _, m, hm, g3, gc, _⟩ := id HS
  have gc : s.1 89 115 = cn m := gc
  have g3 : s.1 10 3 = cn m := g3
  unfold F_X11_sign F_X12_sign F_X11_sign_73
  rw [V_isSignC, V_isSignR gc (by omega), b1_some, b1_some, g3]
  refine rel_ifs Iff.rfl (fun _ => rel_some rfl) (fun hx => ?_)
  obtain ⟨k, hk, ex⟩ := ig_cn (by omega) hx
  subst ex
  rw [V_within, F_isIn, b1_some, b1_some]
  refine rel_ifs Iff.rfl (fun _ => ?_) (fun hy => ?_)
  · rw [V_isGuest, V_isGuestR g2 hn, b1_some, b1_some, show s.1 (1 + 1) 3 = cn n from e2]
    by_cases hg : ig (y - ci 2) (cn n) = 0
    · rw [if_pos hg, if_pos hg]
      exact rel_li (fun _ => rel_some rfl) (fun _ => rel_some rfl)
    · obtain ⟨g, hg', ey⟩ := ig_cn (by omega) hg
      have ey2 : y = cn g + ci 2 := by rw [← ey, Int32.sub_add_cancel]
      have y2 : ¬ y < ci 2 := by
        rw [ey2, show ci 2 = cn 2 from rfl, cn_add (by omega), cn_lt (by omega) (by omega)]; omega
      rw [if_neg hg, if_neg hg, if_neg y2, ey, show ci 5 + cn k = cn (5 + k) from cn_add (a := 5) (by omega), V_atG (c := 5 + k) H.1 e2 hn hg' (by omega) rfl, b1_some, ei_G (by omega), cn_nat (n := 39 + 6 * g + k) (by omega), ixG_5]
      exact rel_rg (rel_some rfl)
  · obtain ⟨c, hc, ey⟩ := wi_cn (l := 1) (by omega) hy
    subst ey
    rw [V_atS (c := c) HS g3 hm hk (by omega) rfl, b1_some, ei_S (by omega), cn_nat (n := 143 + 2 * k + c) (by omega)]
    exact rel_rg (rel_some rfl)
theorem R_book {s : mG} {x y : Int32} (_ : IM s) (h : SIM s s) : rel (F_X11_book s x y) (F_X12_book s x y) (fun u v => u = v) := by
  obtain ⟨n, nb, nc, hn, hnb, e2, e4, e8, H, L, V, g2, g4⟩ := SIM_f h
  unfold F_X11_book F_X12_book F_X11_book_23 F_X12_book_42
  rw [V_hasRow, F_isIn, b1_some, b1_some, e4, g4, wi_igB (by rw [t_cn (by omega)]; omega)]
  refine rel_ifs Iff.rfl (fun _ => rel_some rfl) (fun hx => ?_)
  obtain ⟨r, hr, ex⟩ := ig_cn (by omega) hx
  subst ex
  rw [V_within, F_isIn, b1_some, b1_some]
  refine rel_ifs Iff.rfl (fun _ => rel_some rfl) (fun hy => ?_)
  obtain ⟨c, hc, ey⟩ := wi_cn (l := 4) (by omega) hy
  subst ey
  rw [V_atB (c := c) H.2.1 e4 hnb hr (by omega) rfl, b1_some, ei_B (by omega), cn_nat (n := 235 + 5 * r + c) (by omega)]
  exact rel_rg (rel_some rfl)
end
end
/-! 5zi3.look -/
section
noncomputable section
theorem R_by {s : mG} {x y : Int32} (_ : IM s) (h : SIM s s) : rel (F_X11_by s x y) (F_X12_by s x y) (fun u v => u = v) := by
  obtain ⟨n, nb, nc, hn, hnb, e2, e4, e8, H, L, V, g2, g4⟩ := SIM_f h
  unfold F_X11_by F_X12_by F_X11_by_18 F_X12_by_18
  rw [V_within, F_isIn, b1_some, b1_some]
  refine rel_ifs Iff.rfl (fun _ => rel_some rfl) (fun _ => ?_)
  rw [V_within, F_isIn, b1_some, b1_some]
  refine rel_ifs Iff.rfl (fun _ => rel_some rfl) (fun hy => ?_)
  obtain ⟨c, hc, ey⟩ := wi_cn (l := 1) (by omega) hy
  subst ey
  rw [b1_id]
  unfold F_X8_linesAt F_X8_linesAt_L5 F_X12_by_L25
  refine rel_mono (rel_cong (fun v => v.1 = x ∧ v.2.1 = cn c ∧ ∃ r, r ≤ nb ∧ v.2.2.2 = cn r) (Q := fun _ => True) ⟨rfl, rfl, 0, Nat.zero_le _, rfl⟩ (fun v hv => ?_)) (fun u v q => q.1)
  obtain ⟨x1, x2, x3, x4⟩ := v
  obtain ⟨q1o, q2o, r, hr, q4o⟩ := hv
  have q1 : x = x1 := (show x1 = x from q1o).symm
  have q2 : x2 = cn c := q2o
  have q4 : x4 = cn r := q4o
  subst q1; subst q2; subst q4
  unfold F_X8_linesAt_B5 F_X12_by_B25
  dsimp only
  rw [e4, g4]
  by_cases hrn : nb ≤ r
  · rw [if_pos ((cn_le (by omega) (by omega)).mpr hrn), if_pos ((cn_le (by omega) (by omega)).mpr hrn)]
    exact rel_some ⟨rfl, trivial⟩
  have e61 : (if cn c = 0 then F_X12_by_61 s x (cn c) (cn r) x3 (s.1 89 (235 + 5 * r + 1)) (ci 0) else F_X12_by_61 s x (cn c) (cn r) x3 (s.1 89 (235 + 5 * r + 1)) (ci 1)) = F_X12_by_61 s x (cn c) (cn r) x3 (s.1 89 (235 + 5 * r + 1)) (cn c) := by
    rcases (show c = 0 ∨ c = 1 by omega) with e | e <;> subst e
    · exact if_pos (by decide)
    · exact if_neg (by decide)
  rw [if_neg (fun q => hrn ((cn_le (by omega) (by omega)).mp q)), if_neg (fun q => hrn ((cn_le (by omega) (by omega)).mp q)), V_atB (c := 3) (k := ci 3) H.2.1 e4 hnb (by omega) (by decide) rfl, b1_some, V_atB (c := 1) (k := ci 1) H.2.1 e4 hnb (by omega) (by decide) rfl, b1_some, show c16 235 + ci 5 * cn r + ci 1 = cn (235 + 5 * r + 1) from ei_B (c := 1) (by omega), cn_nat (n := 235 + 5 * r + 1) (by omega), e61]
  refine rel_rg ?_
  unfold F_X12_by_61
  rw [show c16 235 + ci 5 * cn r + ci 3 = cn (235 + 5 * r + 3) from ei_B (c := 3) (by omega), cn_nat (n := 235 + 5 * r + 3) (by omega), show ixB r 3 = 235 + 5 * r + 3 from rfl, show ixB r 1 = 235 + 5 * r + 1 from rfl]
  unfold F_X8_linesAt_58 F_X8_linesAt_59 F_X8_linesAt_72 F_X12_by_87 F_X12_by_88
  rw [if_neg c1n0, if_pos c0e0]
  have fin : ∀ d : Int32, rel (some (Sum.inl (x, cn c, x3 + d, cn r + ci 1)) : Option ((Int32 × Int32 × Int32 × Int32) ⊕ Int32)) (some (Sum.inl (x, cn c, x3 + d, cn r + ci 1))) (fun u v => u = v ∧ se (fun v : Int32 × Int32 × Int32 × Int32 => v.1 = x ∧ v.2.1 = cn c ∧ ∃ r, r ≤ nb ∧ v.2.2.2 = cn r) (fun _ : Int32 => True) u) := fun d => rel_some ⟨rfl, rfl, rfl, r + 1, by omega, cnu (by omega)⟩
  by_cases k3 : s.1 89 (235 + 5 * r + 3) = x
  · by_cases k1 : s.1 89 (235 + 5 * r + 1) = cn c
    · rw [if_pos k3, if_pos k1, if_pos k1, if_pos k3]
      exact rel_rg (fin _)
    · rw [if_pos k3, if_neg k1, if_neg k1]
      exact fin _
  · by_cases k1 : s.1 89 (235 + 5 * r + 1) = cn c
    · rw [if_neg k3, if_pos k1, if_neg k3]
      exact rel_rg (fin _)
    · rw [if_neg k3, if_neg k1]
      exact fin _
end
end
/-! 5zi4.look -/
section
noncomputable section
theorem R_saw {s : mG} {x y : Int32} (_ : IM s) (h : SIM s s) : rel (F_X11_saw s x y) (F_X12_saw s x y) (fun u v => u = v) := by
  obtain ⟨n, nb, nc, hn, hnb, e2, e4, e8, H, L, V, g2, g4⟩ := SIM_f h
  unfold F_X11_saw F_X12_saw F_X11_saw_20 F_X12_saw_17
  rw [V_isGuest, V_isGuestR g2 hn, b1_some, b1_some, show s.1 (1 + 1) 3 = cn n from e2]
  refine rel_ifs Iff.rfl (fun _ => rel_some rfl) (fun _ => ?_)
  rw [V_within, F_isIn, b1_some, b1_some]
  refine rel_ifs Iff.rfl (fun _ => rel_some rfl) (fun hy => ?_)
  obtain ⟨c, hc, ey⟩ := wi_cn (l := 1) (by omega) hy
  subst ey
  have main : ∀ z : Int32, (ci 0 = z ↔ ci 1 = cn c) → (ci 1 = z ↔ ci 0 = cn c) → rel (F_X11_saw_36 s x z) (F_X12_saw_L24 s x (cn c) (ci 0) (ci 0)) (fun u v => u = v) := fun z z0 z1 => by
    unfold F_X11_saw_36 F_X8_linesOf F_X8_linesOf_L5 F_X12_saw_L24
    rw [b1_id]
    refine rel_whl (fun v w => v.1 = x ∧ v.2.1 = z ∧ w.1 = x ∧ w.2.1 = cn c ∧ v.2.2.1 = w.2.2.1 ∧ ∃ r, r ≤ nb ∧ v.2.2.2 = cn r ∧ w.2.2.2 = cn r) ⟨rfl, rfl, rfl, rfl, rfl, 0, Nat.zero_le _, rfl, rfl⟩ (fun v w hvw => ?_)
    obtain ⟨x1, x2, x3, x4⟩ := v
    obtain ⟨y1, y2, y3, y4⟩ := w
    obtain ⟨q1o, q2o, q3o, q4o, q5o, r, hr, q6o, q7o⟩ := hvw
    have q1 : x = x1 := (show x1 = x from q1o).symm
    have q2 : z = x2 := (show x2 = z from q2o).symm
    have q3 : x = y1 := (show y1 = x from q3o).symm
    have q4 : y2 = cn c := q4o
    have q5 : x3 = y3 := q5o
    have q6 : x4 = cn r := q6o
    have q7 : y4 = cn r := q7o
    subst q1; subst q2; subst q3; subst q4; subst q5; subst q6; subst q7
    unfold F_X8_linesOf_B5 F_X12_saw_B24
    dsimp only
    rw [e4, g4]
    by_cases hrn : nb ≤ r
    · rw [if_pos ((cn_le (by omega) (by omega)).mpr hrn), if_pos ((cn_le (by omega) (by omega)).mpr hrn)]
      exact rel_some rfl
    have at4 : F_X10_at 4 s (cn r) (ci 4) = some (s.1 89 (235 + 5 * r + 4)) := V_atB (c := 4) (k := ci 4) H.2.1 e4 hnb (by omega) (by decide) rfl
    have at2 : F_X10_at 4 s (cn r) (ci 2) = some (s.1 89 (235 + 5 * r + 2)) := V_atB (c := 2) (k := ci 2) H.2.1 e4 hnb (by omega) (by decide) rfl
    have at1 : F_X10_at 4 s (cn r) (ci 1) = some (s.1 89 (235 + 5 * r + 1)) := V_atB (c := 1) (k := ci 1) H.2.1 e4 hnb (by omega) (by decide) rfl
    have f58 : F_X8_linesOf_58 s x z x3 (cn r) = some (Sum.inl (x, z, x3 + ci 0, cn r + ci 1)) := by
      unfold F_X8_linesOf_58 F_X8_linesOf_59
      rw [at4, b1_some]
      unfold F_X8_linesOf_83 F_X8_linesOf_101 F_X8_linesOf_102
      rw [if_pos c0e0, if_pos c0e0]
      by_cases k : s.1 89 (235 + 5 * r + 4) = ci (-1)
      · rw [if_pos k]
      · rw [if_neg k]
    have f59 : F_X8_linesOf_59 s x z x3 (cn r) (ci 1) = some (Sum.inl (x, z, x3 + (if s.1 89 (235 + 5 * r + 4) = ci (-1) then (if ci 0 = z then ci 1 else ci 0) else if ci 1 = z then ci 1 else ci 0), cn r + ci 1)) := by
      unfold F_X8_linesOf_59
      rw [at4, b1_some]
      unfold F_X8_linesOf_83 F_X8_linesOf_101 F_X8_linesOf_102
      rw [if_neg c1n0, if_neg c1n0]
      by_cases k : s.1 89 (235 + 5 * r + 4) = ci (-1)
      · rw [if_pos k, if_pos k]
        by_cases kz : ci 0 = z
        · rw [if_pos kz, if_pos kz]
        · rw [if_neg kz, if_neg kz]
      · rw [if_neg k, if_neg k]
        by_cases kz : ci 1 = z
        · rw [if_pos kz, if_pos kz]
        · rw [if_neg kz, if_neg kz]
    rw [if_neg (fun q => hrn ((cn_le (by omega) (by omega)).mp q)), if_neg (fun q => hrn ((cn_le (by omega) (by omega)).mp q)), at2, b1_some, at1, b1_some, f58, f59, show c16 235 + ci 5 * cn r + ci 1 = cn (235 + 5 * r + 1) from ei_B (c := 1) (by omega), show c16 235 + ci 5 * cn r + ci 2 = cn (235 + 5 * r + 2) from ei_B (c := 2) (by omega), show c16 235 + ci 5 * cn r + ci 4 = cn (235 + 5 * r + 4) from ei_B (c := 4) (by omega), cn_nat (n := 235 + 5 * r + 1) (by omega), cn_nat (n := 235 + 5 * r + 2) (by omega), cn_nat (n := 235 + 5 * r + 4) (by omega)]
    unfold F_X12_saw_90 F_X12_saw_98 F_X12_saw_99
    refine rel_rg ?_
    have fin : ∀ d e : Int32, d = e → rel (some (Sum.inl (x, z, x3 + d, cn r + ci 1)) : Option ((Int32 × Int32 × Int32 × Int32) ⊕ Int32)) (some (Sum.inl (x, cn c, x3 + e, cn r + ci 1)) : Option ((Int32 × Int32 × Int32 × Int32) ⊕ Int32)) (se2 (fun v w => v.1 = x ∧ v.2.1 = z ∧ w.1 = x ∧ w.2.1 = cn c ∧ v.2.2.1 = w.2.2.1 ∧ ∃ r, r ≤ nb ∧ v.2.2.2 = cn r ∧ w.2.2.2 = cn r) (fun u v => u = v)) := fun d e he => rel_some ⟨rfl, rfl, rfl, rfl, by rw [he], r + 1, by omega, cnu (by omega), cnu (by omega)⟩
    by_cases k1 : s.1 89 (235 + 5 * r + 1) = ci 2
    · rw [if_pos k1, if_pos k1]
      exact rel_li (fun _ => fin _ _ rfl) (fun _ => fin _ _ rfl)
    rw [if_neg k1, if_neg k1]
    refine rel_rg ?_
    by_cases k2 : s.1 89 (235 + 5 * r + 2) = x
    · rw [if_pos k2, if_pos k2]
      refine rel_rg ?_
      by_cases k4 : s.1 89 (235 + 5 * r + 4) = ci (-1)
      · rw [if_pos k4, if_pos k4]
        exact rel_ri (fun k => fin _ _ (if_pos (z0.mpr k))) (fun k => fin _ _ (if_neg (fun q => k (z0.mp q))))
      · rw [if_neg k4, if_neg k4]
        exact rel_ri (fun k => fin _ _ (if_pos (z1.mpr k))) (fun k => fin _ _ (if_neg (fun q => k (z1.mp q))))
    · rw [if_neg k2, if_neg k2]
      exact fin _ _ rfl
  rcases (show c = 0 ∨ c = 1 by omega) with e | e <;> subst e
  · rw [if_pos (show cn 0 = 0 by decide)]
    exact main (ci 1) (by decide) (by decide)
  · rw [if_neg (show ¬ cn 1 = 0 by decide)]
    exact main (ci 0) (by decide) (by decide)
end
end
/-! 5zi5.look -/
section
noncomputable section
theorem R_thief {s : mG} (_ : IM s) (h : SIM s s) : rel (F_X11_thief s) (F_X12_thief s) (fun u v => u = v) := by
  obtain ⟨n, nb, nc, hn, hnb, e2, e4, e8, H, L, V, g2, g4⟩ := SIM_f h
  unfold F_X11_thief F_X12_thief
  rw [b1_id]
  unfold F_X8_longestOutWithKey F_X8_longestOutWithKey_L6 F_X12_thief_L4
  refine rel_whl (fun v w => v.1 = w.1 ∧ (∃ g, g ≤ n ∧ v.2.2 = cn g ∧ w.2 = cn g) ∧ ((v.1 = ci (-1) ∧ v.2.1 = ci (-1)) ∨ ∃ t, t < n ∧ v.1 = cn t ∧ v.2.1 = s.1 89 (27 + t))) ⟨rfl, ⟨0, Nat.zero_le _, rfl, rfl⟩, Or.inl ⟨rfl, rfl⟩⟩ (fun v w hvw => ?_)
  obtain ⟨x1, x2, x3⟩ := v
  obtain ⟨y1, y2⟩ := w
  obtain ⟨q1o, ⟨g, hg, q2o, q3o⟩, q4o⟩ := hvw
  have q1 : x1 = y1 := q1o
  have q2 : x3 = cn g := q2o
  have q3 : y2 = cn g := q3o
  have q4 : (x1 = ci (-1) ∧ x2 = ci (-1)) ∨ ∃ t, t < n ∧ x1 = cn t ∧ x2 = s.1 89 (27 + t) := q4o
  subst q1; subst q2; subst q3
  unfold F_X8_longestOutWithKey_B6 F_X12_thief_B4
  dsimp only
  rw [e2, g2]
  by_cases hgn : n ≤ g
  · rw [if_pos ((cn_le (by omega) (by omega)).mpr hgn), if_pos ((cn_le (by omega) (by omega)).mpr hgn)]
    exact rel_some rfl
  have a2 : F_X10_at 2 s (cn g) (ci 2) = some (s.1 89 (3 + g)) := V_atG (c := 2) (k := ci 2) H.1 e2 hn (by omega) (by decide) rfl
  have a3 : F_X10_at 2 s (cn g) (ci 3) = some (s.1 89 (15 + g)) := V_atG (c := 3) (k := ci 3) H.1 e2 hn (by omega) (by decide) rfl
  have a4 : F_X10_at 2 s (cn g) (ci 4) = some (s.1 89 (27 + g)) := V_atG (c := 4) (k := ci 4) H.1 e2 hn (by omega) (by decide) rfl
  rw [if_neg (fun q => hgn ((cn_le (by omega) (by omega)).mp q)), if_neg (fun q => hgn ((cn_le (by omega) (by omega)).mp q)), show c8 15 + cn g = cn (15 + g) from cn_add (a := 15) (by omega), show ci 3 + cn g = cn (3 + g) from cn_add (a := 3) (by omega), show c8 27 + cn g = cn (27 + g) from cn_add (a := 27) (by omega), cn_nat (n := 15 + g) (by omega), cn_nat (n := 3 + g) (by omega), cn_nat (n := 27 + g) (by omega)]
  refine rel_rg ?_
  have stay : rel (F_X8_longestOutWithKey_90 s x1 x2 (cn g)) (F_X12_thief_68 s x1 (cn g)) (se2 (fun v w => v.1 = w.1 ∧ (∃ g, g ≤ n ∧ v.2.2 = cn g ∧ w.2 = cn g) ∧ ((v.1 = ci (-1) ∧ v.2.1 = ci (-1)) ∨ ∃ t, t < n ∧ v.1 = cn t ∧ v.2.1 = s.1 89 (27 + t))) (fun u v => u = v)) := by
    unfold F_X8_longestOutWithKey_90 F_X12_thief_68
    exact rel_some ⟨rfl, ⟨g + 1, by omega, cnu (by omega), cnu (by omega)⟩, q4⟩
  have take : rel (F_X8_longestOutWithKey_90 s (cn g) (s.1 89 (27 + g)) (cn g)) (F_X12_thief_66 s (cn g)) (se2 (fun v w => v.1 = w.1 ∧ (∃ g, g ≤ n ∧ v.2.2 = cn g ∧ w.2 = cn g) ∧ ((v.1 = ci (-1) ∧ v.2.1 = ci (-1)) ∨ ∃ t, t < n ∧ v.1 = cn t ∧ v.2.1 = s.1 89 (27 + t))) (fun u v => u = v)) := by
    unfold F_X8_longestOutWithKey_90 F_X12_thief_66 F_X12_thief_68
    exact rel_some ⟨rfl, ⟨g + 1, by omega, cnu (by omega), cnu (by omega)⟩, Or.inr ⟨g, by omega, rfl, rfl⟩⟩
  have no : rel (F_X8_longestOutWithKey_51 s x1 x2 (cn g)) (F_X12_thief_68 s x1 (cn g)) (se2 (fun v w => v.1 = w.1 ∧ (∃ g, g ≤ n ∧ v.2.2 = cn g ∧ w.2 = cn g) ∧ ((v.1 = ci (-1) ∧ v.2.1 = ci (-1)) ∨ ∃ t, t < n ∧ v.1 = cn t ∧ v.2.1 = s.1 89 (27 + t))) (fun u v => u = v)) := by
    unfold F_X8_longestOutWithKey_51 F_X8_longestOutWithKey_52
    rw [if_pos c0e0]
    exact stay
  unfold F_X2_isOut
  rw [show (1 + 1 : Nat) = 2 from rfl, a2, b1_some, a3]
  by_cases k3 : s.1 89 (3 + g) = ci 1
  · rw [if_pos k3, b1_some, if_neg c1n0, b1_some]
    by_cases k15 : s.1 89 (15 + g) = ci (-1)
    · rw [if_pos k15, if_pos k15]
      refine rel_rg ?_
      rw [if_pos k3]
      unfold F_X8_longestOutWithKey_52
      rw [if_neg c1n0, a4, b1_some, b1_some]
      have V27 := (V.2.2 g (by omega)).2.2.1
      rcases q4 with ⟨p1, p2⟩ | ⟨t, ht, p1, p2⟩
      · rw [if_neg (show ¬ s.1 89 (27 + g) ≤ x2 by rw [p2, Int32.le_iff_toInt_le, show (ci (-1)).toInt = -1 by decide]; omega), if_pos p1]
        exact take
      · rw [if_neg (show ¬ x1 = ci (-1) by rw [p1]; exact fun q => absurd (congrArg Int32.toInt q) (by rw [t_cn (by omega), show (ci (-1)).toInt = -1 by decide]; omega)), show c8 27 + x1 = cn (27 + t) by rw [p1]; exact cn_add (a := 27) (by omega), cn_nat (n := 27 + t) (by omega), p2]
        refine rel_rg (rel_rg (rel_ifs Iff.rfl (fun _ => ?_) (fun _ => take)))
        rw [p2] at stay
        exact stay
    · rw [if_neg k15, if_neg k15]
      exact no
  · rw [if_neg k3, b1_some, if_pos c0e0]
    by_cases k15 : s.1 89 (15 + g) = ci (-1)
    · rw [if_pos k15]
      refine rel_rg ?_
      rw [if_neg k3]
      exact no
    · rw [if_neg k15]
      exact no
end
end
/-! 5zj.masks -/
section
noncomputable section
/-! SETS OF GUESTS AS BITS; a look; who saw the last goings -/
def btk (x : Int32) (i : Nat) : Bool := x.toBitVec.getLsbD i
theorem bt_ext {x y : Int32} (h : ∀ i, i < 32 → (btk x i = true ↔ btk y i = true)) : x = y := Int32.toBitVec_inj.mp (BitVec.eq_of_getLsbD_eq (fun i hi => Bool.eq_iff_iff.mpr (h i hi)))
theorem bt_or {x y : Int32} {i : Nat} : btk (x ||| y) i = (btk x i || btk y i) := by
  unfold btk
  rw [Int32.toBitVec_or, BitVec.getLsbD_or]
theorem bt_bit : ∀ k, k < 12 → ∀ i, i < 32 → btk (ci 1 <<< (cn k &&& 31)) i = decide (i = k) := by decide +kernel
theorem bt_0 : ∀ i, i < 32 → btk (ci 0) i = false := by decide +kernel
theorem bt_0n {i : Nat} (hi : i < 32) : ¬ btk (ci 0) i = true := by
  rw [bt_0 i hi]; decide
theorem sh_0 : ∀ k, k < 12 → ci 0 <<< (cn k &&& 31) = ci 0 := by decide +kernel
theorem cn_nm1 {k : Nat} (h : k < 2147483648) : ¬ cn k = ci (-1) := fun q => absurd (congrArg Int32.toInt q) (by rw [t_cn h, show (ci (-1)).toInt = -1 by decide]; omega)
theorem KI_c {s : mG} {n g : Nat} (hI : IM s) (g2 : s.1 89 112 = cn n) (hn : n ≤ 12) (hg : g < n) : s.1 89 (15 + g) = ci (-1) ∨ ∃ k, k < n ∧ s.1 89 (15 + g) = cn k := by
  have q := hI.2.1.2.1 g (by omega) (by rw [g2, t_cn (by omega)]; omega)
  rw [g2, t_cn (by omega)] at q
  by_cases h : s.1 89 (15 + g) = ci (-1)
  · exact Or.inl h
  · have h0 : ¬ (s.1 89 (15 + g)).toInt = -1 := fun e => h (Int32.toInt_inj.mp (by rw [e]; decide))
    have h1 : 0 ≤ (s.1 89 (15 + g)).toInt := by have := q.1; omega
    exact Or.inr ⟨(s.1 89 (15 + g)).toInt.toNat, by have := q.2; omega, cnof h1⟩
theorem KI_j {s : mG} {n g g' : Nat} (hI : IM s) (g2 : s.1 89 112 = cn n) (hn : n ≤ 12) (hg : g < n) (hg' : g' < n) (e : s.1 89 (15 + g) = s.1 89 (15 + g')) (e2 : ¬ s.1 89 (15 + g) = ci (-1)) : g = g' :=
  hI.2.1.2.2 g g' (by omega) (by omega) (by rw [g2, t_cn (by omega)]; omega) (by rw [g2, t_cn (by omega)]; omega) e e2
theorem V_keyIs {s : mG} {n : Nat} {x : Int32} (H : HSr 1 s.1 (s.1 89)) (e2 : s.1 2 3 = cn n) (hn : n ≤ 12) : pk (F_X2_keyOn 1 s x) (fun v => (v = ci (-1) ∧ ∀ g, g < n → ¬ s.1 89 (15 + g) = x) ∨ ∃ g, g < n ∧ v = cn g ∧ s.1 89 (15 + g) = x) := by
  unfold F_X2_keyOn F_X2_keyOn_L2
  refine pk_whl (fun v => v.1 = x ∧ ∃ r, r ≤ n ∧ v.2 = cn r ∧ ∀ g, g < r → ¬ s.1 89 (15 + g) = x) ⟨rfl, 0, Nat.zero_le _, rfl, fun g hg => absurd hg (by omega)⟩ (fun v hv => ?_)
  obtain ⟨x1, x2⟩ := v
  obtain ⟨e1o, r, hr, e3o, hno⟩ := hv
  have e1 : x = x1 := (show x1 = x from e1o).symm
  have e3 : x2 = cn r := e3o
  subst e1; subst e3
  unfold F_X2_keyOn_B2
  dsimp only
  rw [show s.1 (1 + 1) 3 = cn n from e2]
  by_cases hrn : n ≤ r
  · rw [if_pos ((cn_le (by omega) (by omega)).mpr hrn)]
    exact pk_some (Or.inl ⟨rfl, fun g hg => hno g (by omega)⟩)
  · rw [if_neg (fun q => hrn ((cn_le (by omega) (by omega)).mp q)), show (1 + 1 : Nat) = 2 from rfl, V_atG (c := 3) (k := ci 3) H.1 e2 hn (by omega) (by decide) rfl, b1_some, show ixG r 3 = 15 + r from rfl]
    by_cases e : s.1 89 (15 + r) = x
    · rw [if_pos e]; exact pk_some (Or.inr ⟨r, by omega, rfl, e⟩)
    · rw [if_neg e]
      refine pk_some (show _ ∧ ∃ r', _ from ⟨rfl, r + 1, by omega, cnu (by omega), fun g hg => ?_⟩)
      by_cases q : g = r
      · rw [q]; exact e
      · exact hno g (by omega)
/-- the hooks with keys, as bits -/
def HkC (s : mG) (n k : Nat) (x : Int32) : Prop := ∀ i, i < 32 → (btk x i = true ↔ i < k ∧ ∃ g, g < n ∧ s.1 89 (15 + g) = cn i)
def HkR (s : mG) (k : Nat) (x : Int32) : Prop := ∀ i, i < 32 → (btk x i = true ↔ ∃ g, g < k ∧ s.1 89 (15 + g) = cn i)
theorem V_hookSet {s : mG} {n : Nat} (H : HSr 1 s.1 (s.1 89)) (e2 : s.1 2 3 = cn n) (hn : n ≤ 12) : pk (F_X2_hookSet 1 s) (HkC s n n) := by
  unfold F_X2_hookSet F_X2_hookSet_L4
  refine pk_whl (fun v => ∃ k, k ≤ n ∧ v.2 = cn k ∧ HkC s n k v.1) ⟨0, Nat.zero_le _, rfl, fun i hi => ⟨fun q => absurd q (bt_0n hi), fun q => absurd q.1 (by omega)⟩⟩ (fun v hv => ?_)
  obtain ⟨x1, x2⟩ := v
  obtain ⟨k, hk, eo, hbo⟩ := hv
  have e : x2 = cn k := eo
  have hb : HkC s n k x1 := hbo
  subst e
  unfold F_X2_hookSet_B4
  dsimp only
  rw [show s.1 (1 + 1) 3 = cn n from e2]
  by_cases hkn : n ≤ k
  · have ek : k = n := by omega
    rw [if_pos ((cn_le (by omega) (by omega)).mpr hkn)]
    rw [ek] at hb
    exact pk_some hb
  · rw [if_neg (fun q => hkn ((cn_le (by omega) (by omega)).mp q)), V_hasKey, b1_b1]
    have st : ∀ d : Int32, (∀ i, i < 32 → (btk d i = true ↔ i = k ∧ ∃ g, g < n ∧ s.1 89 (15 + g) = cn k)) → pk (F_X2_hookSet_31 1 s (cn k) x1 d) (se (fun v => ∃ k, k ≤ n ∧ v.2 = cn k ∧ HkC s n k v.1) (HkC s n n)) := fun d hd => by
      unfold F_X2_hookSet_31
      refine pk_some (show ∃ k', _ from ⟨k + 1, by omega, cnu (by omega), fun i hi => ?_⟩)
      show btk (x1 ||| d) i = true ↔ _
      rw [bt_or, Bool.or_eq_true, hb i hi, hd i hi]
      constructor
      · intro q
        rcases q with q | q
        · exact ⟨by have := q.1; omega, q.2⟩
        · exact ⟨by have := q.1; omega, by rw [q.1]; exact q.2⟩
      · intro q
        by_cases ei : i = k
        · exact Or.inr ⟨ei, by rw [← ei]; exact q.2⟩
        · exact Or.inl ⟨by have := q.1; omega, q.2⟩
    refine pk_b1 (V_keyIs H e2 hn) (fun u q => ?_)
    rcases q with ⟨q1, q2⟩ | ⟨g, hg, q1, q2⟩
    · rw [if_pos q1, b1_some, if_pos c0e0]
      exact st (ci 0) (fun i hi => ⟨fun q => absurd q (bt_0n hi), fun q => (by obtain ⟨_, g, hg, q⟩ := q; exact absurd q (q2 g hg))⟩)
    · rw [if_neg (by rw [q1]; exact cn_nm1 (by omega)), b1_some, if_neg c1n0]
      exact st _ (fun i hi => by rw [bt_bit k (by omega) i hi]; exact ⟨fun q => ⟨of_decide_eq_true q, g, hg, q2⟩, fun q => decide_eq_true q.1⟩)
theorem V_hooksR {s : mG} {n : Nat} (hI : IM s) (g2 : s.1 89 112 = cn n) (hn : n ≤ 12) : pk (F_X12_hooksWithKeys s) (HkR s n) := by
  unfold F_X12_hooksWithKeys F_X12_hooksWithKeys_L4
  refine pk_whl (fun v => ∃ k, k ≤ n ∧ v.2 = cn k ∧ HkR s k v.1) ⟨0, Nat.zero_le _, rfl, fun i hi => ⟨fun q => absurd q (bt_0n hi), fun q => (by obtain ⟨g, hg, _⟩ := q; exact absurd hg (by omega))⟩⟩ (fun v hv => ?_)
  obtain ⟨x1, x2⟩ := v
  obtain ⟨k, hk, eo, hbo⟩ := hv
  have e : x2 = cn k := eo
  have hb : HkR s k x1 := hbo
  subst e
  unfold F_X12_hooksWithKeys_B4
  dsimp only
  rw [g2]
  by_cases hkn : n ≤ k
  · have ek : k = n := by omega
    rw [if_pos ((cn_le (by omega) (by omega)).mpr hkn)]
    rw [ek] at hb
    exact pk_some hb
  · rw [if_neg (fun q => hkn ((cn_le (by omega) (by omega)).mp q)), show c8 15 + cn k = cn (15 + k) from cn_add (a := 15) (by omega), cn_nat (n := 15 + k) (by omega)]
    refine pk_nn ?_
    have st : ∀ d : Int32, (∀ i, i < 32 → (btk d i = true ↔ s.1 89 (15 + k) = cn i)) → pk (F_X12_hooksWithKeys_44 s (cn k) x1 d) (se (fun v => ∃ k, k ≤ n ∧ v.2 = cn k ∧ HkR s k v.1) (HkR s n)) := fun d hd => by
      unfold F_X12_hooksWithKeys_44
      refine pk_some (show ∃ k', _ from ⟨k + 1, by omega, cnu (by omega), fun i hi => ?_⟩)
      show btk (x1 ||| d) i = true ↔ _
      rw [bt_or, Bool.or_eq_true, hb i hi, hd i hi]
      constructor
      · intro q
        rcases q with q | q
        · obtain ⟨g, hg, q⟩ := q
          exact ⟨g, by omega, q⟩
        · exact ⟨k, by omega, q⟩
      · intro q
        obtain ⟨g, hg, q⟩ := q
        by_cases eg : g = k
        · rw [eg] at q; exact Or.inr q
        · exact Or.inl ⟨g, by omega, q⟩
    rcases KI_c hI g2 hn (show k < n by omega) with q | ⟨j, hj, q⟩
    · rw [if_pos q]
      exact st (ci 0) (fun i hi => ⟨fun p => absurd p (bt_0n hi), fun p => absurd (p.symm.trans q) (cn_nm1 (by omega))⟩)
    · rw [if_neg (by rw [q]; exact cn_nm1 (by omega))]
      refine pk_nn (st _ (fun i hi => ?_))
      rw [q, bt_bit j (by omega) i hi]
      exact ⟨fun p => by rw [of_decide_eq_true p], fun p => decide_eq_true ((cn_inj (by omega) (by omega)).mp p).symm⟩
theorem R_hooks {s : mG} {n : Nat} (hI : IM s) (H : HSr 1 s.1 (s.1 89)) (e2 : s.1 2 3 = cn n) (g2 : s.1 89 112 = cn n) (hn : n ≤ 12) : rel (F_X2_hookSet 1 s) (F_X12_hooksWithKeys s) (fun u v => u = v) := fun u hu v hv => by
  have q1 : HkC s n n u := V_hookSet H e2 hn u hu
  have q2 : HkR s n v := V_hooksR hI g2 hn v hv
  refine bt_ext (fun i hi => ?_)
  rw [q1 i hi, q2 i hi]
  refine ⟨fun q => q.2, fun q => ⟨?_, q⟩⟩
  obtain ⟨g, hg, q⟩ := q
  rcases KI_c hI g2 hn hg with p | ⟨j, hj, p⟩
  · exact absurd (q.symm.trans p) (cn_nm1 (by omega))
  · have := (cn_inj (by omega) (by omega)).mp (q.symm.trans p)
    omega
theorem R_outs {s : mG} {n : Nat} (H : HSr 1 s.1 (s.1 89)) (V : VIm n (s.1 89)) (e2 : s.1 2 3 = cn n) (g2 : s.1 89 112 = cn n) (hn : n ≤ 12) : rel (F_X2_outSet 1 s) (F_X12_outs s) (fun u v => u = v) := by
  unfold F_X2_outSet F_X12_outs F_X2_outSet_L4 F_X12_outs_L4
  refine rel_mono (rel_cong (fun v => ∃ r, r ≤ n ∧ v.2 = cn r) (Q := fun _ => True) ⟨0, Nat.zero_le _, rfl⟩ (fun v hv => ?_)) (fun u v q => q.1)
  obtain ⟨x1, x2⟩ := v
  obtain ⟨r, hr, e3o⟩ := hv
  have e3 : x2 = cn r := e3o
  subst e3
  unfold F_X2_outSet_B4 F_X12_outs_B4 F_X2_outSet_31 F_X2_isOut
  dsimp only
  rw [show s.1 (1 + 1) 3 = cn n from e2, g2]
  by_cases hrn : n ≤ r
  · rw [if_pos ((cn_le (by omega) (by omega)).mpr hrn), if_pos ((cn_le (by omega) (by omega)).mpr hrn)]
    exact rel_some ⟨rfl, trivial⟩
  rw [if_neg (fun q => hrn ((cn_le (by omega) (by omega)).mp q)), if_neg (fun q => hrn ((cn_le (by omega) (by omega)).mp q)), show (1 + 1 : Nat) = 2 from rfl, V_atG (c := 2) (k := ci 2) H.1 e2 hn (by omega) (by decide) rfl, b1_some, show ci 3 + cn r = cn (3 + r) from cn_add (a := 3) (by omega), cn_nat (n := 3 + r) (by omega), show ixG r 2 = 3 + r from rfl]
  refine rel_rg ?_
  rcases (V.2.2 r (by omega)).1 with k | k
  · rw [k, if_neg (show ¬ ci 0 = ci 1 by decide), b1_some, if_pos c0e0, sh_0 r (by omega)]
    exact rel_some ⟨rfl, r + 1, by omega, cnu (by omega)⟩
  · rw [k, if_pos rfl, b1_some, if_neg c1n0]
    exact rel_some ⟨rfl, r + 1, by omega, cnu (by omega)⟩
theorem R_look {s : mG} {x : Int32} (hI : IM s) (h : SIM s s) : rel (F_X11_look s x) (F_X12_look s x) (fun u v => u = v) := by
  obtain ⟨n, nb, nc, hn, hnb, e2, e4, e8, H, L, V, g2, g4⟩ := SIM_f h
  obtain ⟨_, ⟨c, _, _, _, _, _, _, _, _, p1, _, p3, _⟩, _⟩ := h
  obtain ⟨_, _, ⟨_, _, n6, _, h6, w6, _⟩, _, ⟨_, _, n10, _, h10, w10, _⟩, ⟨_, _, n12, _, h12, w12, _⟩, ⟨_, _, n14, _, h14, w14, _⟩, ⟨_, _, n16, _, h16, w16, _⟩, c8', c9, c10, c11⟩ := id H
  unfold F_X11_look F_X12_look F_X11_lookAtTold
  rw [b1_id, b1_id, b1_id, b1_id, b1_id]
  refine rel_ifs Iff.rfl (fun _ => rel_some (e2.trans g2.symm)) (fun _ => ?_)
  refine rel_ifs Iff.rfl (fun _ => rel_some c10) (fun _ => ?_)
  refine rel_ifs Iff.rfl (fun _ => R_outs H V e2 g2 hn) (fun _ => ?_)
  refine rel_ifs Iff.rfl (fun _ => R_hooks hI H e2 g2 hn) (fun _ => ?_)
  refine rel_ifs Iff.rfl (fun _ => rel_some c8') (fun _ => ?_)
  refine rel_ifs Iff.rfl (fun _ => rel_some c9) (fun _ => ?_)
  refine rel_ifs Iff.rfl (fun _ => rel_some (e4.trans g4.symm)) (fun _ => ?_)
  refine rel_ifs Iff.rfl (fun _ => rel_some c11) (fun _ => ?_)
  refine rel_ifs Iff.rfl (fun _ => rel_some (h6.trans w6.symm)) (fun _ => ?_)
  refine rel_ifs Iff.rfl (fun _ => rel_some (h10.trans w10.symm)) (fun _ => ?_)
  refine rel_ifs Iff.rfl (fun _ => rel_some (h12.trans w12.symm)) (fun _ => ?_)
  refine rel_ifs Iff.rfl (fun _ => rel_some (h14.trans w14.symm)) (fun _ => ?_)
  refine rel_ifs Iff.rfl (fun _ => rel_some (p1.trans p3.symm)) (fun _ => ?_)
  refine rel_ifs Iff.rfl (fun _ => rel_some (h16.trans w16.symm)) (fun _ => rel_some rfl)
/-! who saw a guest go last -/
def lg (s : mG) (x : Int32) : Nat → Int32
  | 0 => ci (-1)
  | k + 1 => if s.1 89 (235 + 5 * k + 1) = 0 ∧ s.1 89 (235 + 5 * k + 2) = x then s.1 89 (235 + 5 * k + 4) else lg s x k
theorem V_lastSaw {s : mG} {nb : Nat} {x : Int32} (g4 : s.1 89 2 = cn nb) (hnb : nb ≤ 150) : pk (F_X12_lastSawBy s x) (fun v => v = lg s x nb) := by
  unfold F_X12_lastSawBy F_X12_lastSawBy_L4
  refine pk_whl (fun v => v.1 = x ∧ ∃ r, r ≤ nb ∧ v.2.2 = cn r ∧ v.2.1 = lg s x r) ⟨rfl, 0, Nat.zero_le _, rfl, rfl⟩ (fun v hv => ?_)
  obtain ⟨x1, x2, x3⟩ := v
  obtain ⟨e1o, r, hr, e3o, e4o⟩ := hv
  have e1 : x = x1 := (show x1 = x from e1o).symm
  have e3 : x3 = cn r := e3o
  have e4 : x2 = lg s x r := e4o
  subst e1; subst e3
  unfold F_X12_lastSawBy_B4 F_X12_lastSawBy_58
  dsimp only
  rw [g4]
  by_cases hrn : nb ≤ r
  · have er : r = nb := by omega
    rw [if_pos ((cn_le (by omega) (by omega)).mpr hrn)]
    rw [er] at e4
    exact pk_some e4
  rw [if_neg (fun q => hrn ((cn_le (by omega) (by omega)).mp q)), show c16 235 + ci 5 * cn r + ci 1 = cn (235 + 5 * r + 1) from ei_B (c := 1) (by omega), show c16 235 + ci 5 * cn r + ci 2 = cn (235 + 5 * r + 2) from ei_B (c := 2) (by omega), show c16 235 + ci 5 * cn r + ci 4 = cn (235 + 5 * r + 4) from ei_B (c := 4) (by omega), cn_nat (n := 235 + 5 * r + 1) (by omega), cn_nat (n := 235 + 5 * r + 2) (by omega), cn_nat (n := 235 + 5 * r + 4) (by omega)]
  refine pk_nn ?_
  have st : ∀ y, y = lg s x (r + 1) → pk (some (Sum.inl (x, y, cn r + ci 1)) : Option ((Int32 × Int32 × Int32) ⊕ Int32)) (se (fun v : Int32 × Int32 × Int32 => v.1 = x ∧ ∃ r, r ≤ nb ∧ v.2.2 = cn r ∧ v.2.1 = lg s x r) (fun v : Int32 => v = lg s x nb)) := fun y hy => pk_some (show _ ∧ ∃ r', _ from ⟨rfl, r + 1, by omega, cnu (by omega), hy⟩)
  have lgs : lg s x (r + 1) = if s.1 89 (235 + 5 * r + 1) = 0 ∧ s.1 89 (235 + 5 * r + 2) = x then s.1 89 (235 + 5 * r + 4) else lg s x r := rfl
  by_cases k1 : s.1 89 (235 + 5 * r + 1) = 0
  · rw [if_pos k1]
    refine pk_nn ?_
    by_cases k2 : s.1 89 (235 + 5 * r + 2) = x
    · rw [if_pos k2]
      exact pk_nn (st _ (by rw [lgs, if_pos ⟨k1, k2⟩]))
    · rw [if_neg k2]
      exact st _ (by rw [lgs, if_neg (fun q => k2 q.2)]; exact e4)
  · rw [if_neg k1]
    exact st _ (by rw [lgs, if_neg (fun q => k1 q.1)]; exact e4)
theorem V_clerkOf {s : mG} {nb : Nat} {x : Int32} (H : HSr 1 s.1 (s.1 89)) (e4 : s.1 4 3 = cn nb) (hnb : nb ≤ 150) : pk (F_X8_clerkOfLastGoing s x) (fun v => v = lg s x nb) := by
  unfold F_X8_clerkOfLastGoing F_X8_clerkOfLastGoing_L13
  rw [e4]
  refine pk_whl (fun v => v.1 = x ∧ ∃ r, r ≤ nb ∧ v.2 = cn r - ci 1 ∧ lg s x nb = lg s x r) ⟨rfl, nb, Nat.le_refl _, rfl, rfl⟩ (fun v hv => ?_)
  obtain ⟨x1, x2⟩ := v
  obtain ⟨e1o, r, hr, e3o, e5⟩ := hv
  have e1 : x = x1 := (show x1 = x from e1o).symm
  have e3 : x2 = cn r - ci 1 := e3o
  subst e1; subst e3
  unfold F_X8_clerkOfLastGoing_B13 F_X8_clerkOfLastGoing_61
  dsimp only
  cases r with
  | zero =>
    rw [if_pos (by decide)]
    exact pk_some e5.symm
  | succ r =>
    have er : cn (r + 1) - ci 1 = cn r := by
      rw [show ci 1 = cn 1 from rfl, cn_sub (by omega) (by omega)]; rfl
    have em : cn r + ci (-1) = cn r - ci 1 := by rw [Int32.sub_eq_add_neg]; rfl
    rw [er, em, if_neg (cn_nn (by omega)), V_atB (c := 2) (k := ci 2) H.2.1 e4 hnb (by omega) (by decide) rfl, b1_some, V_atB (c := 1) (k := ci 1) H.2.1 e4 hnb (by omega) (by decide) rfl, b1_some, V_atB (c := 4) (k := ci 4) H.2.1 e4 hnb (by omega) (by decide) rfl, b1_some, show ixB r 2 = 235 + 5 * r + 2 from rfl, show ixB r 1 = 235 + 5 * r + 1 from rfl, show ixB r 4 = 235 + 5 * r + 4 from rfl]
    have lgs : lg s x (r + 1) = if s.1 89 (235 + 5 * r + 1) = 0 ∧ s.1 89 (235 + 5 * r + 2) = x then s.1 89 (235 + 5 * r + 4) else lg s x r := rfl
    have st : ¬ (s.1 89 (235 + 5 * r + 1) = 0 ∧ s.1 89 (235 + 5 * r + 2) = x) → pk (some (Sum.inl (x, cn r - ci 1)) : Option ((Int32 × Int32) ⊕ Int32)) (se (fun v : Int32 × Int32 => v.1 = x ∧ ∃ r, r ≤ nb ∧ v.2 = cn r - ci 1 ∧ lg s x nb = lg s x r) (fun v : Int32 => v = lg s x nb)) := fun q => pk_some (show _ ∧ ∃ r', _ from ⟨rfl, r, by omega, rfl, by rw [e5, lgs, if_neg q]⟩)
    by_cases k2 : s.1 89 (235 + 5 * r + 2) = x
    · rw [if_pos k2]
      by_cases k1 : s.1 89 (235 + 5 * r + 1) = 0
      · rw [if_pos k1]
        refine pk_some (show _ = _ from ?_)
        rw [e5, lgs, if_pos ⟨k1, k2⟩]
      · rw [if_neg k1]
        exact st (fun q => k1 q.1)
    · rw [if_neg k2]
      exact st (fun q => k2 q.2)
theorem R_tellsOn {s : mG} {x : Int32} (_ : IM s) (h : SIM s s) : rel (F_X11_tellsOn s x) (F_X12_tellsOn s x) (fun u v => u = v) := by
  obtain ⟨n, nb, nc, hn, hnb, e2, e4, e8, H, L, V, g2, g4⟩ := SIM_f h
  unfold F_X11_tellsOn F_X12_tellsOn
  rw [V_within, F_isIn, b1_some, b1_some]
  refine rel_ifs Iff.rfl (fun _ => rel_some rfl) (fun _ => ?_)
  rw [b1_id]
  unfold F_X8_outSeenBy F_X8_outSeenBy_L4 F_X12_tellsOn_L15
  refine rel_mono (rel_cong (fun v => v.1 = x ∧ ∃ r, r ≤ n ∧ v.2.2 = cn r) (Q := fun _ => True) ⟨rfl, 0, Nat.zero_le _, rfl⟩ (fun v hv => ?_)) (fun u v q => q.1)
  obtain ⟨x1, x2, x3⟩ := v
  obtain ⟨e1o, r, hr, e3o⟩ := hv
  have e1 : x = x1 := (show x1 = x from e1o).symm
  have e3 : x3 = cn r := e3o
  subst e1; subst e3
  unfold F_X8_outSeenBy_B4 F_X12_tellsOn_B15 F_X2_isOut F_X8_outSeenBy_45 F_X12_tellsOn_54 F_X8_outSeenBy_46 F_X12_tellsOn_55
  dsimp only
  rw [e2, g2]
  by_cases hrn : n ≤ r
  · rw [if_pos ((cn_le (by omega) (by omega)).mpr hrn), if_pos ((cn_le (by omega) (by omega)).mpr hrn)]
    exact rel_some ⟨rfl, trivial⟩
  rw [if_neg (fun q => hrn ((cn_le (by omega) (by omega)).mp q)), if_neg (fun q => hrn ((cn_le (by omega) (by omega)).mp q)), show (1 + 1 : Nat) = 2 from rfl, V_atG (c := 2) (k := ci 2) H.1 e2 hn (by omega) (by decide) rfl, b1_some, show ci 3 + cn r = cn (3 + r) from cn_add (a := 3) (by omega), cn_nat (n := 3 + r) (by omega), show ixG r 2 = 3 + r from rfl]
  refine rel_rg ?_
  by_cases k : s.1 89 (3 + r) = ci 1
  · rw [if_pos k, if_pos k, b1_some, if_neg c1n0]
    refine rel_l1 (V_clerkOf H e4 hnb) (fun u hu => rel_r1 (V_lastSaw g4 hnb) (fun v hv => ?_))
    have e : u = v := hu.trans hv.symm
    subst e
    refine rel_ifs Iff.rfl (fun _ => ?_) (fun _ => ?_)
    · exact rel_some ⟨rfl, rfl, r + 1, by omega, cnu (by omega)⟩
    · exact rel_some ⟨rfl, rfl, r + 1, by omega, cnu (by omega)⟩
  · rw [if_neg k, if_neg k, b1_some, if_pos c0e0]
    exact rel_some ⟨rfl, rfl, r + 1, by omega, cnu (by omega)⟩
end
end
/-! 5zk.costs -/
section
noncomputable section
/-! WHAT THE LAW TELLS, ADDED UP: tags, moves, who carries, who stays away -/
theorem rel_pk {α β : Type} {x : Option α} {y : Option β} {P : α → Prop} {Q : β → Prop} {R : α → β → Prop} (h : pk x P) (k : pk y Q) (e : ∀ u v, P u → Q v → R u v) : rel x y R := fun u hu v hv => e u v (h u hu) (k v hv)
/-- the house is known: row w holds it -/
def HK (w : Nat → Int32) (n nc : Nat) (a : mG) : Prop := HSr 1 a.1 w ∧ a.1 2 3 = cn n ∧ n ≤ 12 ∧ a.1 8 3 = cn nc ∧ LTy nc w
theorem HK_row {w : Nat → Int32} {n nc : Nat} {a u : mG} (h : HK w n nc a) (e : ∀ j, j ≠ 69 → j ≠ 70 → j ≠ 72 → u.1 j = a.1 j) : HK w n nc u := by
  obtain ⟨h1, h2, h3, h4, h5⟩ := h
  exact ⟨HSr_row h1 e, by rw [e 2 (by decide) (by decide) (by decide)]; exact h2, h3, by rw [e 8 (by decide) (by decide) (by decide)]; exact h4, h5⟩
theorem V_faceK {w : Nat → Int32} {n nc g : Nat} {a : mG} (h : HK w n nc a) (hg : g < n) : pk (F_X3_face (cn g) a) (fun u => KNc w g (w 0) (w 113) (w (27 + g)) u ∧ ∀ j, j ≠ 69 → u.1 j = a.1 j) :=
  V_face h.1.1 h.2.1 h.2.2.1 hg h.1.2.2.2.2.2.2.2.2.1 h.1.2.2.2.2.2.2.2.2.2.1 h.1.2.2.2.2.2.2.2.2.2.2.1
theorem V_tellsK {w : Nat → Int32} {n nc g x : Nat} {hh pp ss : Int32} {a : mG} (h : HK w n nc a) (k : KNc w g hh pp ss a) (hx : x < 6) : pk (F_X3_tells (cn x) a) (fun τ => τ.1 = LV w (FAc w g hh pp ss) x ∧ ∀ j, j ≠ 70 → τ.2.1 j = a.1 j) :=
  V_tells (f := FAc w g hh pp ss) (LWC_of h.1 h.2.2.2.1 h.2.2.2.2 rfl rfl rfl rfl) k hx
theorem V_suppose {k : Nat} {e v : Int32} {s : mG} (he : e = cn k) (hk : k < 9) : F_X3_suppose e v s = some (mu s.1 69 k v, s.2) := by
  unfold F_X3_suppose
  rw [V_put69 he hk, b1_some]
theorem KN_pear {w : Nat → Int32} {g : Nat} {hh pp ss p' : Int32} {a : mG} (h : KNc w g hh pp ss a) : KNc w g hh p' ss (mu a.1 69 5 p', a.2) :=
  KN_put (k := 5) h rfl (fun j hj hne => by
    rcases lt9 hj with e | e | e | e | e | e | e | e | e <;> subst e
    · rfl
    · rfl
    · rfl
    · rfl
    · rfl
    · exact absurd rfl hne
    · rfl
    · rfl
    · rfl)
theorem KN_hour {w : Nat → Int32} {g : Nat} {hh pp ss h' c : Int32} {a : mG} (h : KNc w g hh pp ss a) (hc : c = rm h' (c8 24)) (hd : h' / c8 24 = hh / c8 24) : KNc w g h' pp ss (mu a.1 69 3 c, a.2) :=
  KN_put (k := 3) h hc (fun j hj hne => by
    rcases lt9 hj with e | e | e | e | e | e | e | e | e <;> subst e
    · rfl
    · rfl
    · rfl
    · exact absurd rfl hne
    · exact hd.symm
    · rfl
    · rfl
    · rfl
    · rfl)
theorem KN_since {w : Nat → Int32} {g : Nat} {hh pp ss s' : Int32} {a : mG} (h : KNc w g hh pp ss a) : KNc w g hh pp s' (mu a.1 69 8 s', a.2) :=
  KN_put (k := 8) h rfl (fun j hj hne => by
    rcases lt9 hj with e | e | e | e | e | e | e | e | e <;> subst e
    · rfl
    · rfl
    · rfl
    · rfl
    · rfl
    · rfl
    · rfl
    · rfl
    · exact absurd rfl hne)
theorem SIM_K {a b : mG} (h : SIM a b) : ∃ n nc, HK (b.1 89) n nc a ∧ b.1 89 112 = cn n ∧ VIm n (b.1 89) := by
  obtain ⟨⟨n, nb, nc, hn, hnb, e2, e4, e8, H, L, V⟩, _⟩ := h
  exact ⟨n, nc, ⟨H, e2, hn, e8, L⟩, SIM_n H e2, V⟩
/-! tags -/
def cSum (w : Nat → Int32) (p : Int32) : Nat → Int32
  | 0 => ci 0
  | k + 1 => cSum w p k + LV w (FAc w k (w 0) p (w (27 + k))) 2
def cCost (w : Nat → Int32) (n : Nat) (x y z : Int32) : Int32 := (cSum w z n * x) / c16 1000 + z * y
theorem V_costC {w : Nat → Int32} {n nc : Nat} {a : mG} {x y z : Int32} (K : HK w n nc a) : pk (F_X1_costOfTag x y z a) (fun τ => τ.1 = cCost w n x y z ∧ ∀ j, j ≠ 69 → j ≠ 70 → τ.2.1 j = a.1 j) := by
  have hn := K.2.2.1
  unfold F_X1_costOfTag F_X1_costOfTag_L6
  refine pk_whl (fun v => v.1 = x ∧ v.2.1 = y ∧ v.2.2.1 = z ∧ ∃ g, g ≤ n ∧ v.2.2.2.1 = cSum w z g ∧ v.2.2.2.2.1 = cn g ∧ ∀ j, j ≠ 69 → j ≠ 70 → v.2.2.2.2.2.1 j = a.1 j) ⟨rfl, rfl, rfl, 0, Nat.zero_le _, rfl, rfl, fun _ _ _ => rfl⟩ (fun v hv => ?_)
  obtain ⟨x1, x2, x3, x4, x5, s⟩ := v
  obtain ⟨q1o, q2o, q3o, g, hg, q4o, q5o, ro⟩ := hv
  have q1 : x = x1 := (show x1 = x from q1o).symm
  have q2 : y = x2 := (show x2 = y from q2o).symm
  have q3 : z = x3 := (show x3 = z from q3o).symm
  have q4 : x4 = cSum w z g := q4o
  have q5 : x5 = cn g := q5o
  have r : ∀ j, j ≠ 69 → j ≠ 70 → s.1 j = a.1 j := ro
  subst q1; subst q2; subst q3; subst q4; subst q5
  have Ks : HK w n nc s := HK_row K (fun j h1 h2 _ => r j h1 h2)
  unfold F_X1_costOfTag_B6
  dsimp only
  rw [Ks.2.1]
  by_cases hgn : n ≤ g
  · have eg : g = n := by omega
    rw [if_pos ((cn_le (by omega) (by omega)).mpr hgn)]
    exact pk_some (show _ = cCost w n x y z ∧ _ from ⟨by rw [eg]; rfl, r⟩)
  · rw [if_neg (fun q => hgn ((cn_le (by omega) (by omega)).mp q))]
    refine pk_b1 (V_faceK Ks (by omega)) (fun u qu => ?_)
    obtain ⟨k1, r1⟩ := qu
    rw [V_suppose (k := 5) (e := ci 5) rfl (by decide), b1_some]
    have k2 : KNc w g (w 0) z (w (27 + g)) ((mu u.1 69 5 z, u.2) : mG) := KN_pear k1
    have Ku : HK w n nc ((mu u.1 69 5 z, u.2) : mG) := HK_row Ks (fun j h1 _ _ => (mu_rowQ h1).trans (r1 j h1))
    refine pk_b2 (V_tellsK (x := 2) Ku k2 (by decide)) (fun v t qt => ?_)
    obtain ⟨t1o, t2o⟩ := qt
    have t1 : v = LV w (FAc w g (w 0) z (w (27 + g))) 2 := t1o
    have t2 : ∀ j, j ≠ 70 → t.1 j = mu u.1 69 5 z j := t2o
    refine pk_some (show _ ∧ _ ∧ _ ∧ ∃ g', _ from ⟨rfl, rfl, rfl, g + 1, by omega, by rw [t1]; rfl, cnu (by omega), fun j h1 h2 => (t2 j h2).trans ((mu_row h1).trans ((r1 j h1).trans (r j h1 h2)))⟩)
theorem V_costR {b : mG} {n nc : Nat} {x y z : Int32} (L : LTy nc (b.1 89)) (g2 : b.1 89 112 = cn n) (hn : n ≤ 12) : pk (F_X12_tagCostOf z x y b) (fun τ => τ.1 = cCost (b.1 89) n x y z ∧ ∀ j, j ≠ 96 → j ≠ 97 → τ.2.1 j = b.1 j) := by
  unfold F_X12_tagCostOf F_X12_tagCostOf_L6
  refine pk_whl (fun v => v.1 = z ∧ v.2.1 = x ∧ v.2.2.1 = y ∧ ∃ g, g ≤ n ∧ v.2.2.2.1 = cSum (b.1 89) z g ∧ v.2.2.2.2.1 = cn g ∧ ∀ j, j ≠ 96 → j ≠ 97 → v.2.2.2.2.2.1 j = b.1 j) ⟨rfl, rfl, rfl, 0, Nat.zero_le _, rfl, rfl, fun _ _ _ => rfl⟩ (fun v hv => ?_)
  obtain ⟨x1, x2, x3, x4, x5, s⟩ := v
  obtain ⟨q1o, q2o, q3o, g, hg, q4o, q5o, ro⟩ := hv
  have q1 : z = x1 := (show x1 = z from q1o).symm
  have q2 : x = x2 := (show x2 = x from q2o).symm
  have q3 : y = x3 := (show x3 = y from q3o).symm
  have q4 : x4 = cSum (b.1 89) z g := q4o
  have q5 : x5 = cn g := q5o
  have r : ∀ j, j ≠ 96 → j ≠ 97 → s.1 j = b.1 j := ro
  subst q1; subst q2; subst q3; subst q4; subst q5
  have e89 : s.1 89 = b.1 89 := r 89 (by decide) (by decide)
  unfold F_X12_tagCostOf_B6
  dsimp only
  rw [e89, g2]
  by_cases hgn : n ≤ g
  · have eg : g = n := by omega
    rw [if_pos ((cn_le (by omega) (by omega)).mpr hgn)]
    exact pk_some (show _ = cCost (b.1 89) n x y z ∧ _ from ⟨by rw [eg]; rfl, r⟩)
  · rw [if_neg (fun q => hgn ((cn_le (by omega) (by omega)).mp q)), show c8 27 + cn g = cn (27 + g) from cn_add (a := 27) (by omega), cn_nat (n := 27 + g) (by omega)]
    refine pk_nn ?_
    rw [show c8 22 = cn (20 + 2) by decide]
    refine pk_b2 (V_says (x := 2) (nc := nc) (by rw [e89]; exact L) (by omega : g < 12) (by omega)) (fun v t qt => ?_)
    obtain ⟨t1, t2⟩ := qt
    rw [e89] at t1
    have t1 : v = LV (b.1 89) (FAc (b.1 89) g (b.1 89 0) z (b.1 89 (27 + g))) 2 := t1
    have t2 : ∀ j, j ≠ 96 → j ≠ 97 → t.1 j = s.1 j := t2
    refine pk_some (show _ ∧ _ ∧ _ ∧ ∃ g', _ from ⟨rfl, rfl, rfl, g + 1, by omega, by rw [t1]; rfl, cnu (by omega), fun j h1 h2 => (t2 j h1 h2).trans (r j h1 h2)⟩)
theorem R_tagCost {a b : mG} {x y z : Int32} (_ : IM b) (h : SIM a b) : rel (F_X11_tagCost x y z a) (F_X12_tagCost x y z b) (fun τ υ => τ.1 = υ.1) := by
  obtain ⟨n, nc, K, g2, V⟩ := SIM_K h
  unfold F_X11_tagCost F_X12_tagCost F_X11_tagCost_32 F_X12_tagCost_42
  rw [V_within, F_isIn, b1_some, b1_some]
  refine rel_ifs Iff.rfl (fun _ => rel_some rfl) (fun _ => ?_)
  rw [V_within, F_isIn, b1_some, b1_some]
  refine rel_ifs Iff.rfl (fun _ => rel_some rfl) (fun _ => ?_)
  rw [V_within, F_isIn, b1_some, b1_some]
  refine rel_ifs Iff.rfl (fun _ => rel_some rfl) (fun _ => ?_)
  refine rel_b2 (rel_pk (R := fun τ υ => τ.1 = υ.1) (V_costC K) (V_costR K.2.2.2.2 g2 K.2.2.1) (fun u v p q => p.1.trans q.1.symm)) (fun u u' v v' e => rel_some e)
/-- the best tag of the first k -/
def bTag (w : Nat → Int32) (n : Nat) (x y : Int32) : Nat → Nat
  | 0 => 0
  | k + 1 => if cCost w n x y (cn (bTag w n x y k)) ≤ cCost w n x y (cn k) then bTag w n x y k else k
theorem bTag_b {w : Nat → Int32} {n : Nat} {x y : Int32} : ∀ k, bTag w n x y k ≤ k := by
  intro k
  induction k with
  | zero => exact Nat.le_refl _
  | succ k ih =>
    unfold bTag
    by_cases h : cCost w n x y (cn (bTag w n x y k)) ≤ cCost w n x y (cn k)
    · rw [if_pos h]; omega
    · rw [if_neg h]; omega
theorem V_tagBestC {w : Nat → Int32} {n nc : Nat} {a : mG} {x y : Int32} (K : HK w n nc a) : pk (F_X1_bestTag x y a) (fun τ => τ.1 = cn (bTag w n x y 21)) := by
  unfold F_X1_bestTag
  refine pk_b2 (V_costC K) (fun v0 s0' q0 => ?_)
  obtain ⟨p0o, r0o⟩ := q0
  have p0 : v0 = cCost w n x y (ci 0) := p0o
  have r0 : ∀ j, j ≠ 69 → j ≠ 70 → s0'.1 j = a.1 j := r0o
  unfold F_X1_bestTag_L14
  refine pk_whl (fun v => v.1 = x ∧ v.2.1 = y ∧ ∃ k, k ≤ 21 ∧ v.2.2.1 = cn (bTag w n x y k) ∧ v.2.2.2.1 = cCost w n x y (cn (bTag w n x y k)) ∧ v.2.2.2.2.1 = cn k ∧ ∀ j, j ≠ 69 → j ≠ 70 → v.2.2.2.2.2.1 j = a.1 j) ⟨rfl, rfl, 1, by omega, ?_, ?_, rfl, r0⟩ (fun v hv => ?_)
  · show ci 0 = cn (bTag w n x y 1)
    have : bTag w n x y 1 = 0 := by unfold bTag bTag; rw [if_pos (Int32.le_refl _)]
    rw [this]; rfl
  · show v0 = cCost w n x y (cn (bTag w n x y 1))
    have : bTag w n x y 1 = 0 := by unfold bTag bTag; rw [if_pos (Int32.le_refl _)]
    rw [this, p0]; rfl
  obtain ⟨x1, x2, x3, x4, x5, s⟩ := v
  obtain ⟨q1o, q2o, k, hk, q3o, q4o, q5o, ro⟩ := hv
  have q1 : x = x1 := (show x1 = x from q1o).symm
  have q2 : y = x2 := (show x2 = y from q2o).symm
  have q3 : x3 = cn (bTag w n x y k) := q3o
  have q4 : x4 = cCost w n x y (cn (bTag w n x y k)) := q4o
  have q5 : x5 = cn k := q5o
  have r : ∀ j, j ≠ 69 → j ≠ 70 → s.1 j = a.1 j := ro
  subst q1; subst q2; subst q3; subst q4; subst q5
  have Ks : HK w n nc s := HK_row K (fun j h1 h2 _ => r j h1 h2)
  unfold F_X1_bestTag_B14 F_X1_bestTag_45
  dsimp only
  rw [show c8 20 = cn 20 by decide]
  by_cases hk2 : 20 < k
  · have ek : k = 21 := by omega
    rw [if_pos ((cn_lt (by omega) (by omega)).mpr hk2)]
    exact pk_some (show cn (bTag w n x y k) = cn (bTag w n x y 21) by rw [ek])
  · rw [if_neg (fun q => hk2 ((cn_lt (by omega) (by omega)).mp q))]
    refine pk_b2 (V_costC Ks) (fun v t qt => ?_)
    obtain ⟨t1o, t2o⟩ := qt
    have t1 : v = cCost w n x y (cn k) := t1o
    have t2 : ∀ j, j ≠ 69 → j ≠ 70 → t.1 j = s.1 j := t2o
    have fr : ∀ j, j ≠ 69 → j ≠ 70 → t.1 j = a.1 j := fun j h1 h2 => (t2 j h1 h2).trans (r j h1 h2)
    have bs : bTag w n x y (k + 1) = if cCost w n x y (cn (bTag w n x y k)) ≤ cCost w n x y (cn k) then bTag w n x y k else k := rfl
    rw [t1]
    by_cases h : cCost w n x y (cn (bTag w n x y k)) ≤ cCost w n x y (cn k)
    · rw [if_pos h] at bs ⊢
      exact pk_some (show _ ∧ _ ∧ ∃ k', _ from ⟨rfl, rfl, k + 1, by omega, by rw [bs], by rw [bs], cnu (by omega), fr⟩)
    · rw [if_neg h] at bs ⊢
      exact pk_some (show _ ∧ _ ∧ ∃ k', _ from ⟨rfl, rfl, k + 1, by omega, by rw [bs], by rw [bs], cnu (by omega), fr⟩)
theorem V_tagBestR {b : mG} {n nc : Nat} {x y : Int32} (L : LTy nc (b.1 89)) (g2 : b.1 89 112 = cn n) (hn : n ≤ 12) : pk (F_X12_tag_L29 x y (ci 0) (ci 1) b) (fun τ => τ.1 = cn (bTag (b.1 89) n x y 21)) := by
  unfold F_X12_tag_L29
  refine pk_whl (fun v => v.1 = x ∧ v.2.1 = y ∧ ∃ k, k ≤ 21 ∧ v.2.2.1 = cn (bTag (b.1 89) n x y k) ∧ v.2.2.2.1 = cn k ∧ ∀ j, j ≠ 96 → j ≠ 97 → v.2.2.2.2.1 j = b.1 j) ⟨rfl, rfl, 1, by omega, ?_, rfl, fun _ _ _ => rfl⟩ (fun v hv => ?_)
  · show ci 0 = cn (bTag (b.1 89) n x y 1)
    have : bTag (b.1 89) n x y 1 = 0 := by unfold bTag bTag; rw [if_pos (Int32.le_refl _)]
    rw [this]; rfl
  obtain ⟨x1, x2, x3, x4, s⟩ := v
  obtain ⟨q1o, q2o, k, hk, q3o, q4o, ro⟩ := hv
  have q1 : x = x1 := (show x1 = x from q1o).symm
  have q2 : y = x2 := (show x2 = y from q2o).symm
  have q3 : x3 = cn (bTag (b.1 89) n x y k) := q3o
  have q4 : x4 = cn k := q4o
  have r : ∀ j, j ≠ 96 → j ≠ 97 → s.1 j = b.1 j := ro
  subst q1; subst q2; subst q3; subst q4
  have e89 : s.1 89 = b.1 89 := r 89 (by decide) (by decide)
  unfold F_X12_tag_B29 F_X12_tag_57
  dsimp only
  rw [show c8 20 = cn 20 by decide]
  by_cases hk2 : 20 < k
  · have ek : k = 21 := by omega
    rw [if_pos ((cn_lt (by omega) (by omega)).mpr hk2)]
    exact pk_some (show cn (bTag (b.1 89) n x y k) = cn (bTag (b.1 89) n x y 21) by rw [ek])
  · rw [if_neg (fun q => hk2 ((cn_lt (by omega) (by omega)).mp q))]
    refine pk_b2 (V_costR (nc := nc) (n := n) (by rw [e89]; exact L) (by rw [e89]; exact g2) hn) (fun v t qt => ?_)
    obtain ⟨t1, t2⟩ := qt
    rw [e89] at t1
    have t1 : v = cCost (b.1 89) n x y (cn k) := t1
    have t2 : ∀ j, j ≠ 96 → j ≠ 97 → t.1 j = s.1 j := t2
    have f89 : t.1 89 = b.1 89 := (t2 89 (by decide) (by decide)).trans e89
    refine pk_b2 (V_costR (nc := nc) (n := n) (by rw [f89]; exact L) (by rw [f89]; exact g2) hn) (fun v2 t' qt' => ?_)
    obtain ⟨t3, t4⟩ := qt'
    rw [f89] at t3
    have t3 : v2 = cCost (b.1 89) n x y (cn (bTag (b.1 89) n x y k)) := t3
    have t4 : ∀ j, j ≠ 96 → j ≠ 97 → t'.1 j = t.1 j := t4
    have fr : ∀ j, j ≠ 96 → j ≠ 97 → t'.1 j = b.1 j := fun j h1 h2 => (t4 j h1 h2).trans ((t2 j h1 h2).trans (r j h1 h2))
    have bs : bTag (b.1 89) n x y (k + 1) = if cCost (b.1 89) n x y (cn (bTag (b.1 89) n x y k)) ≤ cCost (b.1 89) n x y (cn k) then bTag (b.1 89) n x y k else k := rfl
    rw [t1, t3]
    by_cases h : cCost (b.1 89) n x y (cn (bTag (b.1 89) n x y k)) ≤ cCost (b.1 89) n x y (cn k)
    · rw [if_pos h] at bs ⊢
      exact pk_some (show _ ∧ _ ∧ ∃ k', _ from ⟨rfl, rfl, k + 1, by omega, by rw [bs], cnu (by omega), fr⟩)
    · rw [if_neg h] at bs ⊢
      exact pk_some (show _ ∧ _ ∧ ∃ k', _ from ⟨rfl, rfl, k + 1, by omega, by rw [bs], cnu (by omega), fr⟩)
theorem R_tag {a b : mG} {x y : Int32} (_ : IM b) (h : SIM a b) : rel (F_X11_tag x y a) (F_X12_tag x y b) (fun τ υ => τ.1 = υ.1) := by
  obtain ⟨n, nc, K, g2, V⟩ := SIM_K h
  unfold F_X11_tag F_X12_tag F_X11_tag_22 F_X12_tag_22
  rw [V_within, F_isIn, b1_some, b1_some]
  refine rel_ifs Iff.rfl (fun _ => rel_some rfl) (fun _ => ?_)
  rw [V_within, F_isIn, b1_some, b1_some]
  refine rel_ifs Iff.rfl (fun _ => rel_some rfl) (fun _ => ?_)
  exact rel_pk (pk_b2 (Q := fun τ => τ.1 = cn (bTag (b.1 89) n x y 21)) (V_tagBestC K) (fun v s q => pk_some q)) (V_tagBestR K.2.2.2.2 g2 K.2.2.1) (fun u v p q => p.trans q.symm)
end
end
/-! 5zl.moves -/
section
noncomputable section
/-! MOVES IN AN HOUR; who carries; who stays away -/
def mSum (w : Nat → Int32) (h : Int32) : Nat → Int32
  | 0 => ci 0
  | k + 1 => mSum w h k + LV w (FAc w k h (w 113) (w (27 + k))) (if w (3 + k) = ci 1 then 1 else 0)
theorem V_movesC {w : Nat → Int32} {n nc : Nat} {a : mG} {c h : Int32} (K : HK w n nc a) (hc : c = rm h (c8 24)) (hd : h / c8 24 = w 0 / c8 24) : pk (F_X1_movesAt c a) (fun τ => τ.1 = mSum w h n ∧ ∀ j, j ≠ 69 → j ≠ 70 → τ.2.1 j = a.1 j) := by
  have hn := K.2.2.1
  unfold F_X1_movesAt F_X1_movesAt_L4
  refine pk_whl (fun v => v.1 = c ∧ ∃ g, g ≤ n ∧ v.2.1 = mSum w h g ∧ v.2.2.1 = cn g ∧ ∀ j, j ≠ 69 → j ≠ 70 → v.2.2.2.1 j = a.1 j) ⟨rfl, 0, Nat.zero_le _, rfl, rfl, fun _ _ _ => rfl⟩ (fun v hv => ?_)
  obtain ⟨x1, x2, x3, s⟩ := v
  obtain ⟨q1o, g, hg, q2o, q3o, ro⟩ := hv
  have q1 : c = x1 := (show x1 = c from q1o).symm
  have q2 : x2 = mSum w h g := q2o
  have q3 : x3 = cn g := q3o
  have r : ∀ j, j ≠ 69 → j ≠ 70 → s.1 j = a.1 j := ro
  subst q1; subst q2; subst q3
  have Ks : HK w n nc s := HK_row K (fun j h1 h2 _ => r j h1 h2)
  unfold F_X1_movesAt_B4
  dsimp only
  rw [Ks.2.1]
  by_cases hgn : n ≤ g
  · have eg : g = n := by omega
    rw [if_pos ((cn_le (by omega) (by omega)).mpr hgn)]
    exact pk_some (show mSum w h g = mSum w h n ∧ _ from ⟨by rw [eg], r⟩)
  · rw [if_neg (fun q => hgn ((cn_le (by omega) (by omega)).mp q))]
    refine pk_b1 (V_faceK Ks (by omega)) (fun u qu => ?_)
    obtain ⟨k1, r1⟩ := qu
    rw [V_suppose (k := 3) (e := ci 3) rfl (by decide), b1_some]
    have k2 : KNc w g h (w 113) (w (27 + g)) ((mu u.1 69 3 c, u.2) : mG) := KN_hour k1 hc hd
    have Ku : HK w n nc ((mu u.1 69 3 c, u.2) : mG) := HK_row Ks (fun j h1 _ _ => (mu_rowQ h1).trans (r1 j h1))
    unfold F_X2_isOut F_X1_movesAt_56
    rw [show (1 + 1 : Nat) = 2 from rfl, V_atG (c := 2) (k := ci 2) Ku.1.1 Ku.2.1 hn (by omega) (by decide) rfl, b1_some, show ixG g 2 = 3 + g from rfl]
    have st : ∀ x, x < 6 → (if w (3 + g) = ci 1 then 1 else 0) = x → pk (b2 (F_X3_tells (cn x) ((mu u.1 69 3 c, u.2) : mG)) fun v11 s10 => some (Sum.inl (c, mSum w h g + v11, cn g + ci 1, s10)) : Option ((Int32 × Int32 × Int32 × mG) ⊕ (Int32 × mG))) (se (fun v : Int32 × Int32 × Int32 × mG => v.1 = c ∧ ∃ g, g ≤ n ∧ v.2.1 = mSum w h g ∧ v.2.2.1 = cn g ∧ ∀ j, j ≠ 69 → j ≠ 70 → v.2.2.2.1 j = a.1 j) (fun τ : Int32 × mG => τ.1 = mSum w h n ∧ ∀ j, j ≠ 69 → j ≠ 70 → τ.2.1 j = a.1 j)) := fun x hx ex => by
      refine pk_b2 (V_tellsK (x := x) Ku k2 hx) (fun v t qt => ?_)
      obtain ⟨t1o, t2o⟩ := qt
      have t1 : v = LV w (FAc w g h (w 113) (w (27 + g))) x := t1o
      have t2 : ∀ j, j ≠ 70 → t.1 j = mu u.1 69 3 c j := t2o
      refine pk_some (show _ ∧ ∃ g', _ from ⟨rfl, g + 1, by omega, ?_, cnu (by omega), fun j h1 h2 => (t2 j h2).trans ((mu_row h1).trans ((r1 j h1).trans (r j h1 h2)))⟩)
      show mSum w h g + v = mSum w h g + LV w (FAc w g h (w 113) (w (27 + g))) (if w (3 + g) = ci 1 then 1 else 0)
      rw [ex, t1]
    by_cases ho : w (3 + g) = ci 1
    · rw [if_pos ho, b1_some, if_neg c1n0]
      exact st 1 (by decide) (if_pos ho)
    · rw [if_neg ho, b1_some, if_pos c0e0]
      exact st 0 (by decide) (if_neg ho)
theorem V_movesR {b : mG} {n nc : Nat} {h : Int32} (L : LTy nc (b.1 89)) (g2 : b.1 89 112 = cn n) (hn : n ≤ 12) : pk (F_X12_movesIn h b) (fun τ => τ.1 = mSum (b.1 89) h n ∧ ∀ j, j ≠ 96 → j ≠ 97 → τ.2.1 j = b.1 j) := by
  unfold F_X12_movesIn F_X12_movesIn_L4
  refine pk_whl (fun v => v.1 = h ∧ ∃ g, g ≤ n ∧ v.2.1 = mSum (b.1 89) h g ∧ v.2.2.1 = cn g ∧ ∀ j, j ≠ 96 → j ≠ 97 → v.2.2.2.1 j = b.1 j) ⟨rfl, 0, Nat.zero_le _, rfl, rfl, fun _ _ _ => rfl⟩ (fun v hv => ?_)
  obtain ⟨x1, x2, x3, s⟩ := v
  obtain ⟨q1o, g, hg, q2o, q3o, ro⟩ := hv
  have q1 : h = x1 := (show x1 = h from q1o).symm
  have q2 : x2 = mSum (b.1 89) h g := q2o
  have q3 : x3 = cn g := q3o
  have r : ∀ j, j ≠ 96 → j ≠ 97 → s.1 j = b.1 j := ro
  subst q1; subst q2; subst q3
  have e89 : s.1 89 = b.1 89 := r 89 (by decide) (by decide)
  unfold F_X12_movesIn_B4 F_X12_movesIn_36
  dsimp only
  rw [e89, g2]
  by_cases hgn : n ≤ g
  · have eg : g = n := by omega
    rw [if_pos ((cn_le (by omega) (by omega)).mpr hgn)]
    exact pk_some (show mSum (b.1 89) h g = mSum (b.1 89) h n ∧ _ from ⟨by rw [eg], r⟩)
  · rw [if_neg (fun q => hgn ((cn_le (by omega) (by omega)).mp q)), show ci 3 + cn g = cn (3 + g) from cn_add (a := 3) (by omega), cn_nat (n := 3 + g) (by omega), show c8 27 + cn g = cn (27 + g) from cn_add (a := 27) (by omega), cn_nat (n := 27 + g) (by omega), show c8 21 = cn (20 + 1) by decide, show c8 20 = cn (20 + 0) by decide]
    refine pk_nn ?_
    have st : ∀ x, x < 6 → (if b.1 89 (3 + g) = ci 1 then 1 else 0) = x → pk (b2 (F_X12_saysIn (cn (20 + x)) (cn g) h (b.1 89 113) (b.1 89 (27 + g)) s) fun v7 s6 => some (Sum.inl (h, mSum (b.1 89) h g + v7, cn g + ci 1, s6)) : Option ((Int32 × Int32 × Int32 × mG) ⊕ (Int32 × mG))) (se (fun v : Int32 × Int32 × Int32 × mG => v.1 = h ∧ ∃ g, g ≤ n ∧ v.2.1 = mSum (b.1 89) h g ∧ v.2.2.1 = cn g ∧ ∀ j, j ≠ 96 → j ≠ 97 → v.2.2.2.1 j = b.1 j) (fun τ : Int32 × mG => τ.1 = mSum (b.1 89) h n ∧ ∀ j, j ≠ 96 → j ≠ 97 → τ.2.1 j = b.1 j)) := fun x hx ex => by
      refine pk_b2 (V_says (x := x) (nc := nc) (by rw [e89]; exact L) (by omega : g < 12) hx) (fun v t qt => ?_)
      obtain ⟨t1, t2⟩ := qt
      rw [e89] at t1
      have t1 : v = LV (b.1 89) (FAc (b.1 89) g h (b.1 89 113) (b.1 89 (27 + g))) x := t1
      have t2 : ∀ j, j ≠ 96 → j ≠ 97 → t.1 j = s.1 j := t2
      refine pk_some (show _ ∧ ∃ g', _ from ⟨rfl, g + 1, by omega, ?_, cnu (by omega), fun j h1 h2 => (t2 j h1 h2).trans (r j h1 h2)⟩)
      show mSum (b.1 89) h g + v = mSum (b.1 89) h g + LV (b.1 89) (FAc (b.1 89) g h (b.1 89 113) (b.1 89 (27 + g))) (if b.1 89 (3 + g) = ci 1 then 1 else 0)
      rw [ex, t1]
    by_cases ho : b.1 89 (3 + g) = ci 1
    · rw [if_pos ho]
      exact pk_nn (st 1 (by decide) (if_pos ho))
    · rw [if_neg ho]
      exact pk_nn (st 0 (by decide) (if_neg ho))
theorem R_expect {a b : mG} (_ : IM b) (h : SIM a b) : rel (F_X11_expect a) (F_X12_expect b) (fun τ υ => τ.1 = υ.1) := by
  obtain ⟨n, nc, K, g2, V⟩ := SIM_K h
  unfold F_X11_expect F_X12_expect F_X1_movesNow
  have e10 : a.1 1 10 = b.1 89 0 := K.1.2.2.2.2.2.2.2.2.2.2.1
  refine rel_b2 (rel_pk (R := fun τ υ => τ.1 = υ.1) (pk_b2 (Q := fun τ => τ.1 = mSum (b.1 89) (b.1 89 0) n) (V_movesC (h := b.1 89 0) K (by rw [e10]) rfl) (fun v s q => pk_some q.1)) (V_movesR K.2.2.2.2 g2 K.2.2.1) (fun u v p q => p.trans q.1.symm)) (fun u u' v v' e => ?_)
  have e : u = v := e
  rw [e]
  exact rel_some rfl
/-- an hour of the day that is -/
theorem day_h {x : Int32} (h0 : 0 ≤ x.toInt ∧ x.toInt ≤ 9999) {c : Nat} (hc : c < 24) : cn c = rm ((x / c8 24) * c8 24 + cn c) (c8 24) ∧ ((x / c8 24) * c8 24 + cn c) / c8 24 = x / c8 24 := by
  have t24 : (c8 24).toInt = 24 := by decide
  have d : (x / c8 24).toInt = x.toInt / 24 := t_div rfl t24 h0.1 (by decide)
  have e : ((x / c8 24) * c8 24).toInt = x.toInt / 24 * 24 := by
    rw [t_mul (by rw [d, t24]; omega) (by rw [d, t24]; omega), d, t24]
  have f : ((x / c8 24) * c8 24 + cn c).toInt = x.toInt / 24 * 24 + c := by
    rw [t_add (by rw [e, t_cn (by omega)]; omega) (by rw [e, t_cn (by omega)]; omega), e, t_cn (by omega)]
  refine ⟨Int32.toInt_inj.mp ?_, Int32.toInt_inj.mp ?_⟩
  · rw [t_rm f t24 (by omega) (by decide), t_cn (by omega)]; omega
  · rw [t_div f t24 (by omega) (by decide), d]; omega
/-- the busiest clock of the first k -/
def bClk (w : Nat → Int32) (n : Nat) : Nat → Nat
  | 0 => 0
  | k + 1 => if mSum w ((w 0 / c8 24) * c8 24 + cn k) n ≤ mSum w ((w 0 / c8 24) * c8 24 + cn (bClk w n k)) n then bClk w n k else k
theorem bClk_b {w : Nat → Int32} {n : Nat} : ∀ k, bClk w n (k + 1) ≤ k := by
  intro k
  induction k with
  | zero =>
    unfold bClk bClk
    rw [if_pos (Int32.le_refl _)]
    exact Nat.le_refl _
  | succ k ih =>
    have e : bClk w n (k + 2) = if mSum w ((w 0 / c8 24) * c8 24 + cn (k + 1)) n ≤ mSum w ((w 0 / c8 24) * c8 24 + cn (bClk w n (k + 1))) n then bClk w n (k + 1) else k + 1 := rfl
    rw [e]
    by_cases h : mSum w ((w 0 / c8 24) * c8 24 + cn (k + 1)) n ≤ mSum w ((w 0 / c8 24) * c8 24 + cn (bClk w n (k + 1))) n
    · rw [if_pos h]; omega
    · rw [if_neg h]; omega
theorem bClk_1 {w : Nat → Int32} {n : Nat} : bClk w n 1 = 0 := by
  have q : bClk w n 1 ≤ 0 := bClk_b (w := w) (n := n) 0
  omega
theorem V_clockC {w : Nat → Int32} {n nc : Nat} {a : mG} (K : HK w n nc a) (h0 : 0 ≤ (w 0).toInt ∧ (w 0).toInt ≤ 9999) : pk (F_X1_busiestClock a) (fun τ => τ.1 = cn (bClk w n 24) ∧ ∀ j, j ≠ 69 → j ≠ 70 → τ.2.1 j = a.1 j) := by
  unfold F_X1_busiestClock
  have D := fun c (hc : c < 24) => day_h h0 hc
  refine pk_b2 (V_movesC (h := (w 0 / c8 24) * c8 24 + cn 0) K (D 0 (by decide)).1 (D 0 (by decide)).2) (fun v0 s0' q0 => ?_)
  obtain ⟨p0o, r0o⟩ := q0
  have p0 : v0 = mSum w ((w 0 / c8 24) * c8 24 + cn 0) n := p0o
  have r0 : ∀ j, j ≠ 69 → j ≠ 70 → s0'.1 j = a.1 j := r0o
  unfold F_X1_busiestClock_L10
  refine pk_whl (fun v => ∃ k, k < 24 ∧ v.1 = cn (bClk w n (k + 1)) ∧ v.2.1 = mSum w ((w 0 / c8 24) * c8 24 + cn (bClk w n (k + 1))) n ∧ v.2.2.1 = cn (k + 1) ∧ ∀ j, j ≠ 69 → j ≠ 70 → v.2.2.2.1 j = a.1 j) ⟨0, by omega, ?_, ?_, rfl, r0⟩ (fun v hv => ?_)
  · show ci 0 = cn (bClk w n 1)
    rw [bClk_1]; rfl
  · show v0 = mSum w ((w 0 / c8 24) * c8 24 + cn (bClk w n 1)) n
    rw [bClk_1]; exact p0
  obtain ⟨x1, x2, x3, s⟩ := v
  obtain ⟨k, hk, q1o, q2o, q3o, ro⟩ := hv
  have q1 : x1 = cn (bClk w n (k + 1)) := q1o
  have q2 : x2 = mSum w ((w 0 / c8 24) * c8 24 + cn (bClk w n (k + 1))) n := q2o
  have q3 : x3 = cn (k + 1) := q3o
  have r : ∀ j, j ≠ 69 → j ≠ 70 → s.1 j = a.1 j := ro
  subst q1; subst q2; subst q3
  have Ks : HK w n nc s := HK_row K (fun j h1 h2 _ => r j h1 h2)
  unfold F_X1_busiestClock_B10 F_X1_busiestClock_34
  dsimp only
  by_cases hk2 : 24 ≤ k + 1
  · have ek : k = 23 := by omega
    rw [if_pos (show c8 24 ≤ cn (k + 1) from (cn_le (a := 24) (by omega) (by omega)).mpr hk2)]
    exact pk_some (show cn (bClk w n (k + 1)) = cn (bClk w n 24) ∧ _ from ⟨by rw [ek], r⟩)
  · rw [if_neg (show ¬ c8 24 ≤ cn (k + 1) from fun q => hk2 ((cn_le (a := 24) (by omega) (by omega)).mp q))]
    refine pk_b2 (V_movesC (h := (w 0 / c8 24) * c8 24 + cn (k + 1)) Ks (D (k + 1) (by omega)).1 (D (k + 1) (by omega)).2) (fun v t qt => ?_)
    obtain ⟨t1o, t2o⟩ := qt
    have t1 : v = mSum w ((w 0 / c8 24) * c8 24 + cn (k + 1)) n := t1o
    have t2 : ∀ j, j ≠ 69 → j ≠ 70 → t.1 j = s.1 j := t2o
    have fr : ∀ j, j ≠ 69 → j ≠ 70 → t.1 j = a.1 j := fun j h1 h2 => (t2 j h1 h2).trans (r j h1 h2)
    have bs : bClk w n (k + 1 + 1) = if mSum w ((w 0 / c8 24) * c8 24 + cn (k + 1)) n ≤ mSum w ((w 0 / c8 24) * c8 24 + cn (bClk w n (k + 1))) n then bClk w n (k + 1) else k + 1 := rfl
    rw [t1]
    by_cases h : mSum w ((w 0 / c8 24) * c8 24 + cn (k + 1)) n ≤ mSum w ((w 0 / c8 24) * c8 24 + cn (bClk w n (k + 1))) n
    · rw [if_pos h] at bs ⊢
      exact pk_some (show ∃ k', _ from ⟨k + 1, by omega, by rw [bs], by rw [bs], cnu (by omega), fr⟩)
    · rw [if_neg h] at bs ⊢
      exact pk_some (show ∃ k', _ from ⟨k + 1, by omega, by rw [bs], by rw [bs], cnu (by omega), fr⟩)
/-- what busy answers -/
def bzA (w : Nat → Int32) (n : Nat) (x : Int32) : Int32 := if x = 0 then cn (bClk w n 24) else mSum w ((w 0 / c8 24) * c8 24 + cn (bClk w n 24)) n / c16 1000
theorem V_busyR {b : mG} {n nc : Nat} {x : Int32} (L : LTy nc (b.1 89)) (g2 : b.1 89 112 = cn n) (hn : n ≤ 12) : pk (F_X12_busy_L29 x ((b.1 89 0 / c8 24) * c8 24) (ci 0) (ci 1) b) (fun τ => τ.1 = bzA (b.1 89) n x) := by
  unfold F_X12_busy_L29
  refine pk_whl (fun v => v.1 = x ∧ v.2.1 = (b.1 89 0 / c8 24) * c8 24 ∧ ∃ k, k < 24 ∧ v.2.2.1 = cn (bClk (b.1 89) n (k + 1)) ∧ v.2.2.2.1 = cn (k + 1) ∧ ∀ j, j ≠ 96 → j ≠ 97 → v.2.2.2.2.1 j = b.1 j) ⟨rfl, rfl, 0, by omega, ?_, rfl, fun _ _ _ => rfl⟩ (fun v hv => ?_)
  · show ci 0 = cn (bClk (b.1 89) n 1)
    rw [bClk_1]; rfl
  obtain ⟨x1, x2, x3, x4, s⟩ := v
  obtain ⟨q1o, q2o, k, hk, q3o, q4o, ro⟩ := hv
  have q1 : x = x1 := (show x1 = x from q1o).symm
  have q2 : x2 = (b.1 89 0 / c8 24) * c8 24 := q2o
  have q3 : x3 = cn (bClk (b.1 89) n (k + 1)) := q3o
  have q4 : x4 = cn (k + 1) := q4o
  have r : ∀ j, j ≠ 96 → j ≠ 97 → s.1 j = b.1 j := ro
  subst q1; subst q2; subst q3; subst q4
  have e89 : s.1 89 = b.1 89 := r 89 (by decide) (by decide)
  unfold F_X12_busy_B29 F_X12_busy_57
  dsimp only
  have MV : ∀ (t : mG) (hh : Int32), t.1 89 = b.1 89 → pk (F_X12_movesIn hh t) (fun τ => τ.1 = mSum (b.1 89) hh n ∧ ∀ j, j ≠ 96 → j ≠ 97 → τ.2.1 j = t.1 j) := fun t hh e => by
    have q := V_movesR (h := hh) (b := t) (n := n) (nc := nc) (by rw [e]; exact L) (by rw [e]; exact g2) hn
    rw [e] at q
    exact q
  by_cases hk2 : 24 ≤ k + 1
  · have ek : k = 23 := by omega
    rw [if_pos (show c8 24 ≤ cn (k + 1) from (cn_le (a := 24) (by omega) (by omega)).mpr hk2)]
    by_cases hx : x = 0
    · rw [if_pos hx]
      exact pk_some (show cn (bClk (b.1 89) n (k + 1)) = bzA (b.1 89) n x by unfold bzA; rw [if_pos hx, ek])
    · rw [if_neg hx]
      refine pk_b2 (MV s _ e89) (fun v t qt => ?_)
      have t1 : v = mSum (b.1 89) ((b.1 89 0 / c8 24) * c8 24 + cn (bClk (b.1 89) n (k + 1))) n := qt.1
      exact pk_some (show v / c16 1000 = bzA (b.1 89) n x by unfold bzA; rw [if_neg hx, t1, ek])
  · rw [if_neg (show ¬ c8 24 ≤ cn (k + 1) from fun q => hk2 ((cn_le (a := 24) (by omega) (by omega)).mp q))]
    refine pk_b2 (MV s _ e89) (fun v t qt => ?_)
    obtain ⟨t1o, t2o⟩ := qt
    have t1 : v = mSum (b.1 89) ((b.1 89 0 / c8 24) * c8 24 + cn (k + 1)) n := t1o
    have t2 : ∀ j, j ≠ 96 → j ≠ 97 → t.1 j = s.1 j := t2o
    have f89 : t.1 89 = b.1 89 := (t2 89 (by decide) (by decide)).trans e89
    refine pk_b2 (MV t _ f89) (fun v2 t' qt' => ?_)
    obtain ⟨t3, t4⟩ := qt'
    have t3 : v2 = mSum (b.1 89) ((b.1 89 0 / c8 24) * c8 24 + cn (bClk (b.1 89) n (k + 1))) n := t3
    have t4 : ∀ j, j ≠ 96 → j ≠ 97 → t'.1 j = t.1 j := t4
    have fr : ∀ j, j ≠ 96 → j ≠ 97 → t'.1 j = b.1 j := fun j h1 h2 => (t4 j h1 h2).trans ((t2 j h1 h2).trans (r j h1 h2))
    have bs : bClk (b.1 89) n (k + 1 + 1) = if mSum (b.1 89) ((b.1 89 0 / c8 24) * c8 24 + cn (k + 1)) n ≤ mSum (b.1 89) ((b.1 89 0 / c8 24) * c8 24 + cn (bClk (b.1 89) n (k + 1))) n then bClk (b.1 89) n (k + 1) else k + 1 := rfl
    rw [t1, t3]
    by_cases h : mSum (b.1 89) ((b.1 89 0 / c8 24) * c8 24 + cn (k + 1)) n ≤ mSum (b.1 89) ((b.1 89 0 / c8 24) * c8 24 + cn (bClk (b.1 89) n (k + 1))) n
    · rw [if_pos h] at bs ⊢
      exact pk_some (show _ ∧ _ ∧ ∃ k', _ from ⟨rfl, rfl, k + 1, by omega, by rw [bs], cnu (by omega), fr⟩)
    · rw [if_neg h] at bs ⊢
      exact pk_some (show _ ∧ _ ∧ ∃ k', _ from ⟨rfl, rfl, k + 1, by omega, by rw [bs], cnu (by omega), fr⟩)
theorem R_busy {a b : mG} {x : Int32} (_ : IM b) (h : SIM a b) : rel (F_X11_busy x a) (F_X12_busy x b) (fun τ υ => τ.1 = υ.1) := by
  obtain ⟨n, nc, K, g2, V⟩ := SIM_K h
  have h0 : 0 ≤ (b.1 89 0).toInt ∧ (b.1 89 0).toInt ≤ 9999 := ⟨V.1, V.2.1⟩
  unfold F_X11_busy F_X12_busy
  rw [F_isIn, b1_some]
  dsimp only
  by_cases h1 : x = 0
  · subst h1
    rw [if_pos rfl, if_neg (show ¬ wi 0 (ci 0) (ci 1) = 0 by decide)]
    exact rel_pk (pk_b2 (Q := fun τ => τ.1 = bzA (b.1 89) n 0) (V_clockC K h0) (fun v s q => pk_some (show v = bzA (b.1 89) n 0 by unfold bzA; rw [if_pos rfl]; exact q.1))) (V_busyR K.2.2.2.2 g2 K.2.2.1) (fun u v p q => p.trans q.symm)
  rw [if_neg h1]
  by_cases h2 : x = ci 1
  · subst h2
    rw [if_pos rfl, if_neg (show ¬ wi (ci 1) (ci 0) (ci 1) = 0 by decide)]
    refine rel_pk (P := fun τ => τ.1 = bzA (b.1 89) n (ci 1)) (pk_b2 (V_clockC K h0) (fun v s q => ?_)) (V_busyR K.2.2.2.2 g2 K.2.2.1) (fun u v p q => p.trans q.symm)
    obtain ⟨q1o, q2o⟩ := q
    have q1 : v = cn (bClk (b.1 89) n 24) := q1o
    have q2 : ∀ j, j ≠ 69 → j ≠ 70 → s.1 j = a.1 j := q2o
    have Ks : HK (b.1 89) n nc s := HK_row K (fun j h1 h2 _ => q2 j h1 h2)
    have lt : bClk (b.1 89) n 24 < 24 := by
      have q : bClk (b.1 89) n 24 ≤ 23 := bClk_b (w := b.1 89) (n := n) 23
      omega
    rw [q1]
    refine pk_b2 (V_movesC (h := (b.1 89 0 / c8 24) * c8 24 + cn (bClk (b.1 89) n 24)) Ks (day_h h0 lt).1 (day_h h0 lt).2) (fun v' s' q' => ?_)
    have t1 : v' = mSum (b.1 89) ((b.1 89 0 / c8 24) * c8 24 + cn (bClk (b.1 89) n 24)) n := q'.1
    exact pk_some (show v' / c16 1000 = bzA (b.1 89) n (ci 1) by unfold bzA; rw [if_neg c1n0, t1])
  · rw [if_neg h2]
    by_cases hw : wi x (ci 0) (ci 1) = 0
    · rw [if_pos hw]; exact rel_some rfl
    · obtain ⟨c, hc, ex⟩ := wi_cn (l := 1) (by omega) hw
      rcases (show c = 0 ∨ c = 1 by omega) with e | e
      · exact absurd (show x = 0 by rw [ex, e]; rfl) h1
      · exact absurd (show x = ci 1 by rw [ex, e]; rfl) h2
/-! who carries his key -/
theorem b2_id {α β : Type} {x : Option (α × β)} : b2 x (fun u v => some (u, v)) = x := by
  rcases x with _ | ⟨u, v⟩ <;> rfl
theorem R_carries {a b : mG} (_ : IM b) (h : SIM a b) : rel (F_X11_carries a) (F_X12_carries b) (fun τ υ => τ.1 = υ.1) := by
  obtain ⟨n, nc, K, g2, V⟩ := SIM_K h
  have hn := K.2.2.1
  have L := K.2.2.2.2
  unfold F_X11_carries F_X12_carries F_X1_likeliestToCarry F_X1_likeliestToCarry_L6 F_X12_carries_L4
  rw [b2_id]
  refine rel_whl (fun v w => v.1 = w.1 ∧ (∃ g, g ≤ n ∧ v.2.2.1 = cn g ∧ w.2.1 = cn g) ∧ ((v.1 = ci (-1) ∧ v.2.1 = ci (-1)) ∨ ∃ t, t < n ∧ v.1 = cn t ∧ v.2.1 = LVn (b.1 89) t 2) ∧ (∀ j, j ≠ 69 → j ≠ 70 → v.2.2.2.1 j = a.1 j) ∧ ∀ j, j ≠ 96 → j ≠ 97 → w.2.2.1 j = b.1 j) ⟨rfl, ⟨0, Nat.zero_le _, rfl, rfl⟩, Or.inl ⟨rfl, rfl⟩, fun _ _ _ => rfl, fun _ _ _ => rfl⟩ (fun v w hvw => ?_)
  obtain ⟨x1, x2, x3, s⟩ := v
  obtain ⟨y1, y2, t⟩ := w
  obtain ⟨q1o, ⟨g, hg, q2o, q3o⟩, q4o, r1o, r2o⟩ := hvw
  have q1 : x1 = y1 := q1o
  have q2 : x3 = cn g := q2o
  have q3 : y2 = cn g := q3o
  have q4 : (x1 = ci (-1) ∧ x2 = ci (-1)) ∨ ∃ t, t < n ∧ x1 = cn t ∧ x2 = LVn (b.1 89) t 2 := q4o
  have r1 : ∀ j, j ≠ 69 → j ≠ 70 → s.1 j = a.1 j := r1o
  have r2 : ∀ j, j ≠ 96 → j ≠ 97 → t.1 j = b.1 j := r2o
  subst q1; subst q2; subst q3
  have Ks : HK (b.1 89) n nc s := HK_row K (fun j h1 h2 _ => r1 j h1 h2)
  have e89 : t.1 89 = b.1 89 := r2 89 (by decide) (by decide)
  unfold F_X1_likeliestToCarry_B6 F_X12_carries_B4 F_X1_likeliestToCarry_49 F_X12_carries_37 F_X12_carries_39
  dsimp only
  rw [Ks.2.1, e89, g2]
  by_cases hgn : n ≤ g
  · rw [if_pos ((cn_le (by omega) (by omega)).mpr hgn), if_pos ((cn_le (by omega) (by omega)).mpr hgn)]
    exact rel_some rfl
  rw [if_neg (fun q => hgn ((cn_le (by omega) (by omega)).mp q)), if_neg (fun q => hgn ((cn_le (by omega) (by omega)).mp q))]
  refine rel_l1 (V_faceK Ks (by omega)) (fun u qu => ?_)
  obtain ⟨k1, f1⟩ := qu
  rw [show ci 2 = cn 2 from rfl]
  refine rel_l2 (V_tellsK (x := 2) (HK_row Ks (fun j h1 _ _ => f1 j h1)) k1 (by decide)) (fun v6 s5 qt => ?_)
  obtain ⟨t1o, t2o⟩ := qt
  have t1 : v6 = LVn (b.1 89) g 2 := t1o
  have t2 : ∀ j, j ≠ 70 → s5.1 j = u.1 j := t2o
  have fr : ∀ j, j ≠ 69 → j ≠ 70 → s5.1 j = a.1 j := fun j h1 h2 => (t2 j h2).trans ((f1 j h1).trans (r1 j h1 h2))
  rw [t1]
  rcases q4 with ⟨p1, p2⟩ | ⟨z, hz, p1, p2⟩
  · have b0 := (LV_b (w := b.1 89) (f := FAc (b.1 89) g (b.1 89 0) (b.1 89 113) (b.1 89 (27 + g))) (x := 2) (by decide)).1
    have b0 : 0 ≤ (LVn (b.1 89) g 2).toInt := b0
    rw [if_neg (show ¬ LVn (b.1 89) g 2 ≤ x2 by rw [p2, Int32.le_iff_toInt_le, show (ci (-1)).toInt = -1 by decide]; omega), if_pos p1]
    exact rel_some (show _ ∧ (∃ g', _) ∧ _ ∧ _ ∧ _ from ⟨rfl, ⟨g + 1, by omega, cnu (by omega), cnu (by omega)⟩, Or.inr ⟨g, by omega, rfl, rfl⟩, fr, r2⟩)
  · rw [if_neg (show ¬ x1 = ci (-1) by rw [p1]; exact cn_nm1 (by omega)), show c8 22 = cn (20 + 2) by decide]
    refine rel_r2 (V_saysNow (x := 2) (nc := nc) (by rw [e89]; exact L) (by omega : g < 12) (by omega)) (fun v5 s4 qs => ?_)
    obtain ⟨u1, u2⟩ := qs
    rw [e89] at u1
    have u1 : v5 = LVn (b.1 89) g 2 := u1
    have u2 : ∀ j, j ≠ 96 → j ≠ 97 → s4.1 j = t.1 j := u2
    have f89 : s4.1 89 = b.1 89 := (u2 89 (by decide) (by decide)).trans e89
    rw [p1]
    refine rel_r2 (V_saysNow (x := 2) (nc := nc) (by rw [f89]; exact L) (by omega : z < 12) (by omega)) (fun v8 s7 qs => ?_)
    obtain ⟨w1, w2⟩ := qs
    rw [f89] at w1
    have w1 : v8 = LVn (b.1 89) z 2 := w1
    have w2 : ∀ j, j ≠ 96 → j ≠ 97 → s7.1 j = s4.1 j := w2
    have fr2 : ∀ j, j ≠ 96 → j ≠ 97 → s7.1 j = b.1 j := fun j h1 h2 => (w2 j h1 h2).trans ((u2 j h1 h2).trans (r2 j h1 h2))
    rw [u1, w1, p2]
    refine rel_ifs Iff.rfl (fun _ => ?_) (fun _ => ?_)
    · exact rel_some (show _ ∧ (∃ g', _) ∧ _ ∧ _ ∧ _ from ⟨rfl, ⟨g + 1, by omega, cnu (by omega), cnu (by omega)⟩, Or.inr ⟨z, hz, rfl, rfl⟩, fr, fr2⟩)
    · exact rel_some (show _ ∧ (∃ g', _) ∧ _ ∧ _ ∧ _ from ⟨rfl, ⟨g + 1, by omega, cnu (by omega), cnu (by omega)⟩, Or.inr ⟨g, by omega, rfl, rfl⟩, fr, fr2⟩)
/-! who stays away -/
def awS (w : Nat → Int32) (g : Nat) : Nat → Int32
  | 0 => ci 1000000
  | k + 1 => (awS w g k * (c16 1000 - LV w (FAc w g (w 0 + cn k) (w 113) (imin (w (27 + g) + cn k) (c16 999))) 1)) / c16 1000
theorem V_stillC {w : Nat → Int32} {n nc g m : Nat} {a : mG} (K : HK w n nc a) (hg : g < n) (hm : m ≤ 48) : pk (F_X1_stillOut (cn g) (cn m) a) (fun τ => τ.1 = awS w g m) := by
  have hn := K.2.2.1
  unfold F_X1_stillOut
  refine pk_b1 (V_faceK K hg) (fun u0 q0 => ?_)
  obtain ⟨k0, r0⟩ := q0
  unfold F_X1_stillOut_L14
  refine pk_whl (fun v => v.1 = cn g ∧ v.2.1 = cn m ∧ ∃ k, k ≤ m ∧ v.2.2.1 = awS w g k ∧ v.2.2.2.1 = cn k ∧ (∃ hh ss, KNc w g hh (w 113) ss v.2.2.2.2) ∧ ∀ j, j ≠ 69 → j ≠ 70 → v.2.2.2.2.1 j = a.1 j) ⟨rfl, rfl, 0, Nat.zero_le _, rfl, rfl, ⟨_, _, k0⟩, fun j h1 _ => r0 j h1⟩ (fun v hv => ?_)
  obtain ⟨x1, x2, x3, x4, s⟩ := v
  obtain ⟨q1o, q2o, k, hk, q3o, q4o, ⟨hh, ss, kno⟩, ro⟩ := hv
  have q1 : x1 = cn g := q1o
  have q2 : x2 = cn m := q2o
  have q3 : x3 = awS w g k := q3o
  have q4 : x4 = cn k := q4o
  have kn : KNc w g hh (w 113) ss s := kno
  have r : ∀ j, j ≠ 69 → j ≠ 70 → s.1 j = a.1 j := ro
  subst q1; subst q2; subst q3; subst q4
  have Ks : HK w n nc s := HK_row K (fun j h1 h2 _ => r j h1 h2)
  have e10 : s.1 1 10 = w 0 := Ks.1.2.2.2.2.2.2.2.2.2.2.1
  unfold F_X1_stillOut_B14
  dsimp only
  by_cases hkm : m ≤ k
  · have ek : k = m := by omega
    rw [if_pos ((cn_le (by omega) (by omega)).mpr hkm)]
    exact pk_some (show awS w g k = awS w g m by rw [ek])
  · rw [if_neg (fun q => hkm ((cn_le (by omega) (by omega)).mp q)), e10]
    refine pk_b1 (V_supposeHour kn) (fun u qu => ?_)
    obtain ⟨k1, f1⟩ := qu
    have Ku : HK w n nc u := HK_row Ks (fun j h1 _ _ => f1 j h1)
    rw [V_atG (c := 4) (k := ci 4) Ku.1.1 Ku.2.1 hn hg (by decide) rfl, b1_some, show ixG g 4 = 27 + g from rfl, V_suppose (k := 8) (e := c8 8) (by decide) (by decide), b1_some, show ci 1 = cn 1 from rfl]
    have k2 : KNc w g (w 0 + cn k) (w 113) (imin (w (27 + g) + cn k) (c16 999)) ((mu u.1 69 8 (imin (w (27 + g) + cn k) (c16 999)), u.2) : mG) := KN_since k1
    have Kv : HK w n nc ((mu u.1 69 8 (imin (w (27 + g) + cn k) (c16 999)), u.2) : mG) := HK_row Ku (fun j h1 _ _ => mu_rowQ h1)
    refine pk_b2 (V_tellsK (x := 1) Kv k2 (by decide)) (fun v t qt => ?_)
    obtain ⟨t1o, t2o⟩ := qt
    have t1 : v = LV w (FAc w g (w 0 + cn k) (w 113) (imin (w (27 + g) + cn k) (c16 999))) 1 := t1o
    have t2 : ∀ j, j ≠ 70 → t.1 j = mu u.1 69 8 (imin (w (27 + g) + cn k) (c16 999)) j := t2o
    have k3 : KNc w g (w 0 + cn k) (w 113) (imin (w (27 + g) + cn k) (c16 999)) t := fun j hj => by rw [t2 69 (by decide)]; exact k2 j hj
    refine pk_some (show _ ∧ _ ∧ ∃ k', _ from ⟨rfl, rfl, k + 1, by omega, by rw [t1]; rfl, cnu (by omega), ⟨_, _, k3⟩, fun j h1 h2 => (t2 j h2).trans ((mu_row h1).trans ((f1 j h1).trans (r j h1 h2)))⟩)
theorem V_stillR {b : mG} {n nc g m : Nat} (L : LTy nc (b.1 89)) (g2 : b.1 89 112 = cn n) (hn : n ≤ 12) (hg : g < n) (hm : m ≤ 48) : pk (F_X12_away_L38 (cn g) (cn m) (ci 1000000) (ci 0) b) (fun τ => τ.1 = awS (b.1 89) g m) := by
  unfold F_X12_away_L38
  refine pk_whl (fun v => v.1 = cn g ∧ v.2.1 = cn m ∧ ∃ k, k ≤ m ∧ v.2.2.1 = awS (b.1 89) g k ∧ v.2.2.2.1 = cn k ∧ ∀ j, j ≠ 96 → j ≠ 97 → v.2.2.2.2.1 j = b.1 j) ⟨rfl, rfl, 0, Nat.zero_le _, rfl, rfl, fun _ _ _ => rfl⟩ (fun v hv => ?_)
  obtain ⟨x1, x2, x3, x4, s⟩ := v
  obtain ⟨q1o, q2o, k, hk, q3o, q4o, ro⟩ := hv
  have q1 : x1 = cn g := q1o
  have q2 : x2 = cn m := q2o
  have q3 : x3 = awS (b.1 89) g k := q3o
  have q4 : x4 = cn k := q4o
  have r : ∀ j, j ≠ 96 → j ≠ 97 → s.1 j = b.1 j := ro
  subst q1; subst q2; subst q3; subst q4
  have e89 : s.1 89 = b.1 89 := r 89 (by decide) (by decide)
  unfold F_X12_away_B38
  dsimp only
  by_cases hkm : m ≤ k
  · have ek : k = m := by omega
    rw [if_pos ((cn_le (by omega) (by omega)).mpr hkm)]
    exact pk_some (show awS (b.1 89) g k = awS (b.1 89) g m by rw [ek])
  · rw [if_neg (fun q => hkm ((cn_le (by omega) (by omega)).mp q)), show c8 27 + cn g = cn (27 + g) from cn_add (a := 27) (by omega), cn_nat (n := 27 + g) (by omega), V_lesser, b1_some, e89, show c8 21 = cn (20 + 1) by decide]
    refine pk_nn ?_
    refine pk_b2 (V_says (x := 1) (nc := nc) (by rw [e89]; exact L) (by omega : g < 12) (by omega)) (fun v t qt => ?_)
    obtain ⟨t1, t2⟩ := qt
    rw [e89] at t1
    have t1 : v = LV (b.1 89) (FAc (b.1 89) g (b.1 89 0 + cn k) (b.1 89 113) (imin (b.1 89 (27 + g) + cn k) (c16 999))) 1 := t1
    have t2 : ∀ j, j ≠ 96 → j ≠ 97 → t.1 j = s.1 j := t2
    refine pk_some (show _ ∧ _ ∧ ∃ k', _ from ⟨rfl, rfl, k + 1, by omega, by rw [t1]; rfl, cnu (by omega), fun j h1 h2 => (t2 j h1 h2).trans (r j h1 h2)⟩)
theorem R_away {a b : mG} {x y : Int32} (_ : IM b) (h : SIM a b) : rel (F_X11_away x y a) (F_X12_away x y b) (fun τ υ => τ.1 = υ.1) := by
  obtain ⟨n, nc, K, g2, V⟩ := SIM_K h
  have hn := K.2.2.1
  unfold F_X11_away F_X12_away F_X11_away_32 F_X12_away_29
  rw [V_isGuest, V_isGuestR g2 hn, b1_some, b1_some, show a.1 (1 + 1) 3 = cn n from K.2.1]
  refine rel_ifs Iff.rfl (fun _ => rel_some rfl) (fun hx => ?_)
  obtain ⟨g, hg, ex⟩ := ig_cn (by omega) hx
  subst ex
  rw [V_within, F_isIn, b1_some, b1_some]
  unfold F_X2_isOut
  rw [show (1 + 1 : Nat) = 2 from rfl, V_atG (c := 2) (k := ci 2) K.1.1 K.2.1 hn hg (by decide) rfl, b1_some, show ixG g 2 = 3 + g from rfl, show ci 3 + cn g = cn (3 + g) from cn_add (a := 3) (by omega), cn_nat (n := 3 + g) (by omega)]
  refine rel_rg ?_
  rcases (V.2.2 g hg).1 with ho | ho
  · rw [if_pos (show b.1 89 (3 + g) = 0 from ho.trans c0e0), if_neg (show ¬ b.1 89 (3 + g) = ci 1 by rw [ho]; decide), b1_some, if_pos c0e0]
    exact rel_li (fun _ => rel_some rfl) (fun _ => rel_some rfl)
  · rw [if_neg (show ¬ b.1 89 (3 + g) = 0 by rw [ho]; decide), if_pos ho, b1_some, if_neg c1n0]
    refine rel_ifs Iff.rfl (fun _ => rel_some rfl) (fun hy => ?_)
    obtain ⟨m, hm, ey⟩ := wi_cn (l := 48) (by omega) hy
    subst ey
    exact rel_pk (pk_b2 (Q := fun τ => τ.1 = awS (b.1 89) g m) (V_stillC K hg hm) (fun v s q => pk_some q)) (V_stillR K.2.2.2.2 g2 hn hg hm) (fun u v p q => p.trans q.symm)
end
end
/-! 5zm1.rings -/
section
noncomputable section
/-! RINGS OF KEYS -/
theorem pk_li {c : Prop} [Decidable c] {α : Type} {x y : Option α} {P : α → Prop} (h1 : c → pk x P) (h2 : ¬ c → pk y P) : pk (if c then x else y) P := by
  by_cases q : c
  · rw [if_pos q]; exact h1 q
  · rw [if_neg q]; exact h2 q
/-- how many of the first k -/
def cBt (f : Nat → Bool) : Nat → Nat
  | 0 => 0
  | k + 1 => cBt f k + (if f k = true then 1 else 0)
theorem cBt_add {f g : Nat → Bool} {j : Nat} (h : ∀ i, i ≠ j → g i = f i) (hf : f j = false) (hg : g j = true) : ∀ k, cBt g k = cBt f k + (if j < k then 1 else 0) := by
  intro k
  induction k with
  | zero => rfl
  | succ k ih =>
    unfold cBt
    rw [ih]
    by_cases e : k = j
    · subst e
      rw [hf, hg, if_neg (show ¬ k < k by omega), if_pos (show k < k + 1 by omega), if_pos rfl, if_neg (show ¬ (false = true) by decide)]
    · rw [h k e]
      by_cases l : j < k
      · rw [if_pos l, if_pos (show j < k + 1 by omega)]; omega
      · rw [if_neg l, if_neg (show ¬ j < k + 1 by omega), Nat.add_zero, Nat.add_zero]
theorem cBt_le {f : Nat → Bool} {n : Nat} (h : ∀ i, f i = true → i < n) : ∀ k, cBt f k ≤ k ∧ cBt f k ≤ n := by
  intro k
  induction k with
  | zero => exact ⟨Nat.le_refl _, Nat.zero_le _⟩
  | succ k ih =>
    unfold cBt
    by_cases e : f k = true
    · have := h k e
      rw [if_pos e]; omega
    · rw [if_neg e]; omega
theorem cBt_0 {f : Nat → Bool} (h : ∀ i, i < 12 → f i = false) : cBt f 12 = 0 := by
  have q : ∀ k, k ≤ 12 → cBt f k = 0 := by
    intro k
    induction k with
    | zero => intro _; rfl
    | succ k ih =>
      intro hk
      unfold cBt
      rw [ih (by omega), h k (by omega), if_neg (by decide)]
  exact q 12 (by decide)
/-- a word's bits, all of them below 12 -/
theorem lo12 {v : Int32} (h : ∀ i, i < 32 → btk v i = true → i < 12) : ∃ x y, x < 64 ∧ y < 64 ∧ v = cn (64 * x + y) := by
  have hm : v.toBitVec.toNat < 2 ^ 12 := Nat.lt_pow_two_of_testBit _ (fun i hi => by
    by_cases hi2 : i < 32
    · cases e : Nat.testBit v.toBitVec.toNat i with
      | false => rfl
      | true => exact absurd (h i hi2 e) (by omega)
    · exact BitVec.getLsbD_of_ge v.toBitVec i (by omega))
  have hm : v.toBitVec.toNat < 4096 := hm
  refine ⟨v.toBitVec.toNat / 64, v.toBitVec.toNat % 64, by omega, by omega, Int32.toBitVec_inj.mp (BitVec.eq_of_toNat_eq ?_)⟩
  show _ = (BitVec.ofNat 32 (64 * (v.toBitVec.toNat / 64) + v.toBitVec.toNat % 64)).toNat
  rw [BitVec.toNat_ofNat]
  omega
theorem bc_12 : ∀ x, x < 64 → ∀ y, y < 64 → F_J6_bitCount_0f7a4 s0 (cn (64 * x + y)) = some (cn (cBt (btk (cn (64 * x + y))) 12)) := by decide +kernel
theorem sr_1 : ∀ x, x < 64 → ∀ y, y < 64 → ∀ k, k < 12 → (cn (64 * x + y) >>> (cn k &&& 31)) &&& ci 1 = if btk (cn (64 * x + y)) k = true then cn 1 else cn 0 := by decide +kernel
end
end
/-! 5zm2.rings -/
section
noncomputable section
theorem V_bcs {s t : mG} {v : Int32} : F_J6_bitCount_0f7a4 s v = F_J6_bitCount_0f7a4 t v := rfl
theorem V_bits {s : mG} {v : Int32} (h : ∀ i, i < 32 → btk v i = true → i < 12) : F_J6_bitCount_0f7a4 s v = some (cn (cBt (btk v) 12)) := by
  obtain ⟨x, y, hx, hy, e⟩ := lo12 h
  rw [e]
  exact (V_bcs (t := s0)).trans (bc_12 x hx y hy)
theorem V_count {s : mG} {v : Int32} (h : ∀ i, i < 32 → btk v i = true → i < 12) : pk (F_X12_count s v) (fun u => u = cn (cBt (btk v) 12)) := by
  obtain ⟨x, y, hx, hy, e⟩ := lo12 h
  unfold F_X12_count F_X12_count_L4
  refine pk_whl (fun z => z.1 = v ∧ ∃ k, k ≤ 12 ∧ z.2.1 = cn (cBt (btk v) k) ∧ z.2.2 = cn k) ⟨rfl, 0, by omega, rfl, rfl⟩ (fun z hz => ?_)
  obtain ⟨x0, x1, x2⟩ := z
  obtain ⟨q1o, k, hk, q2o, q3o⟩ := hz
  have q1 : v = x0 := (show x0 = v from q1o).symm
  have q2 : x1 = cn (cBt (btk v) k) := q2o
  have q3 : x2 = cn k := q3o
  subst q1; subst q2; subst q3
  unfold F_X12_count_B4
  dsimp only
  by_cases h12 : 12 ≤ k
  · have ek : k = 12 := by omega
    rw [if_pos (show c8 12 ≤ cn k from (cn_le (a := 12) (by omega) (by omega)).mpr h12)]
    exact pk_some (show cn (cBt (btk v) k) = cn (cBt (btk v) 12) by rw [ek])
  · rw [if_neg (show ¬ c8 12 ≤ cn k from fun q => h12 ((cn_le (a := 12) (by omega) (by omega)).mp q))]
    have s1 : (v >>> (cn k &&& 31)) &&& ci 1 = if btk v k = true then cn 1 else cn 0 := by
      rw [e]; exact sr_1 x hx y hy k (by omega)
    have hb : cBt (btk v) k ≤ k := (cBt_le (f := btk v) (n := 1000) (fun i hi => by
      by_cases hi2 : i < 32
      · have := h i hi2 hi; omega
      · have q : btk v i = false := BitVec.getLsbD_of_ge v.toBitVec i (by omega)
        rw [q] at hi; cases hi) k).1
    rw [s1]
    refine pk_some (show _ ∧ ∃ k', _ from ⟨rfl, k + 1, by omega, ?_, cnu (by omega)⟩)
    show cn (cBt (btk v) k) + (if btk v k = true then cn 1 else cn 0) = cn (cBt (btk v) k + (if btk v k = true then 1 else 0))
    by_cases eb : btk v k = true
    · rw [if_pos eb, if_pos eb]; exact cn_add (by omega)
    · rw [if_neg eb, if_neg eb]; exact cn_add (by omega)
/-! the hooks one after the other -/
def pth (w : Nat → Int32) (a : Nat) : Nat → Nat
  | 0 => a
  | i + 1 => (w (15 + pth w a i)).toNatClampNeg
/-- k steps that come to no end and not back -/
def Wk (w : Nat → Int32) (n a k : Nat) : Prop := a < n ∧ ∀ i, i < k → w (15 + pth w a i) = cn (pth w a (i + 1)) ∧ pth w a (i + 1) < n ∧ pth w a (i + 1) ≠ a
def Rng (w : Nat → Int32) (n a k : Nat) : Prop := 2 ≤ k ∧ k ≤ n ∧ Wk w n a (k - 1) ∧ w (15 + pth w a (k - 1)) = cn a
def Ded (w : Nat → Int32) (n a : Nat) : Prop := ∃ k, Wk w n a k ∧ (w (15 + pth w a k) = ci (-1) ∨ w (15 + pth w a k) = cn (pth w a k))
theorem Wk_lt {w : Nat → Int32} {n a k : Nat} (h : Wk w n a k) : ∀ i, i ≤ k → pth w a i < n := by
  intro i hi
  cases i with
  | zero => exact h.1
  | succ i => exact (h.2 i (by omega)).2.1
theorem Wk_up {w : Nat → Int32} {n a k j : Nat} (h : Wk w n a k) (hn : n ≤ 12) (hw : w (15 + pth w a k) = cn j) (hj : j < n) (hne : j ≠ a) : Wk w n a (k + 1) ∧ pth w a (k + 1) = j := by
  have e : pth w a (k + 1) = j := by
    show (w (15 + pth w a k)).toNatClampNeg = j
    rw [hw, cn_nat (by omega)]
  refine ⟨⟨h.1, fun i hi => ?_⟩, e⟩
  by_cases q : i = k
  · rw [q, e]; exact ⟨hw, hj, hne⟩
  · exact h.2 i (by omega)
/-- all of them differ -/
theorem Wk_new {s : mG} {n a k : Nat} (hI : IM s) (g2 : s.1 89 112 = cn n) (hn : n ≤ 12) (h : Wk (s.1 89) n a k) : ∀ m, m ≤ k → ∀ i, i < m → pth (s.1 89) a i ≠ pth (s.1 89) a m := by
  intro m
  induction m with
  | zero => intro _ i hi; exact absurd hi (by omega)
  | succ m ih =>
    intro hm i hi e
    have hm1 := h.2 m (by omega)
    cases i with
    | zero => exact hm1.2.2 e.symm
    | succ i =>
      have hi1 := h.2 i (by omega)
      have q := KI_j hI g2 hn (Wk_lt h i (by omega)) (Wk_lt h m (by omega)) (by rw [hi1.1, hm1.1, e]) (by rw [hi1.1]; exact cn_nm1 (by have := hi1.2.1; omega))
      exact ih (by omega) i (by omega) q
/-- the set of what was passed -/
def Msk (w : Nat → Int32) (a k : Nat) (x : Int32) : Prop := (∀ i, i < 32 → (btk x i = true ↔ ∃ j, j < k ∧ pth w a j = i)) ∧ cBt (btk x) 12 = k
theorem Msk_0 {w : Nat → Int32} {a : Nat} : Msk w a 0 (ci 0) :=
  ⟨fun i hi => ⟨fun q => absurd q (bt_0n hi), fun q => (by obtain ⟨j, hj, _⟩ := q; exact absurd hj (by omega))⟩, cBt_0 (fun i hi => bt_0 i (by omega))⟩
theorem Msk_up {s : mG} {n a k : Nat} {x : Int32} (hI : IM s) (g2 : s.1 89 112 = cn n) (hn : n ≤ 12) (h : Wk (s.1 89) n a k) (hx : Msk (s.1 89) a k x) : Msk (s.1 89) a (k + 1) (x ||| (ci 1 <<< (cn (pth (s.1 89) a k) &&& 31))) := by
  have lt := Wk_lt h k (Nat.le_refl _)
  have bit : ∀ i, i < 32 → btk (x ||| (ci 1 <<< (cn (pth (s.1 89) a k) &&& 31))) i = (btk x i || decide (i = pth (s.1 89) a k)) := fun i hi => by
    rw [bt_or, bt_bit _ (by omega) i hi]
  refine ⟨fun i hi => ?_, ?_⟩
  · rw [bit i hi, Bool.or_eq_true, hx.1 i hi]
    constructor
    · intro q
      rcases q with q | q
      · obtain ⟨j, hj, q⟩ := q
        exact ⟨j, by omega, q⟩
      · exact ⟨k, by omega, (of_decide_eq_true q).symm⟩
    · intro q
      obtain ⟨j, hj, q⟩ := q
      by_cases e : j = k
      · rw [e] at q; exact Or.inr (decide_eq_true q.symm)
      · exact Or.inl ⟨j, by omega, q⟩
  · have no : btk x (pth (s.1 89) a k) = false := by
      cases e : btk x (pth (s.1 89) a k) with
      | false => rfl
      | true =>
        obtain ⟨j, hj, q⟩ := (hx.1 _ (by omega)).mp e
        exact absurd q (Wk_new hI g2 hn h k (Nat.le_refl _) j hj)
    have out : ∀ (v : Int32) i, ¬ i < 32 → btk v i = false := fun v i hi => BitVec.getLsbD_of_ge v.toBitVec i (by omega)
    have c := cBt_add (f := btk x) (g := btk (x ||| (ci 1 <<< (cn (pth (s.1 89) a k) &&& 31)))) (j := pth (s.1 89) a k) (fun i hi => by
      by_cases h32 : i < 32
      · rw [bit i h32, decide_eq_false hi, Bool.or_false]
      · rw [out _ i h32, out _ i h32]) no (by rw [bit _ (by omega), decide_eq_true rfl, Bool.or_true]) 12
    rw [c, hx.2, if_pos (by omega)]
theorem Msk_le {s : mG} {n a k : Nat} {x : Int32} (h : Wk (s.1 89) n a k) (hx : Msk (s.1 89) a (k + 1) x) : k + 1 ≤ n := by
  have q := (cBt_le (f := btk x) (n := n) (fun i hi => by
    by_cases h32 : i < 32
    · obtain ⟨j, hj, q⟩ := (hx.1 i h32).mp hi
      rw [← q]; exact Wk_lt h j (by omega)
    · have q : btk x i = false := BitVec.getLsbD_of_ge x.toBitVec i (by omega)
      rw [q] at hi; cases hi) 12).2
  rw [hx.2] at q
  exact q
theorem V_ringOf {s : mG} {n a : Nat} (hI : IM s) (H : HSr 1 s.1 (s.1 89)) (e2 : s.1 2 3 = cn n) (g2 : s.1 89 112 = cn n) (hn : n ≤ 12) (ha : a < n) : pk (F_X8_ringOf s (cn a)) (fun v => (v = ci 0 ∧ Ded (s.1 89) n a) ∨ ∃ k, Rng (s.1 89) n a k ∧ Msk (s.1 89) a k v) := by
  unfold F_X8_ringOf F_X8_ringOf_L7
  refine pk_whl (fun v => v.1 = cn a ∧ ∃ k, Wk (s.1 89) n a k ∧ Msk (s.1 89) a k v.2.1 ∧ v.2.2.1 = cn (pth (s.1 89) a k) ∧ v.2.2.2 = cn k) ⟨rfl, 0, ⟨ha, fun i hi => absurd hi (by omega)⟩, Msk_0, rfl, rfl⟩ (fun v hv => ?_)
  obtain ⟨x1, x2, x3, x4⟩ := v
  obtain ⟨q1o, k, W, Mo, q3o, q4o⟩ := hv
  have q1 : x1 = cn a := q1o
  have M : Msk (s.1 89) a k x2 := Mo
  have q3 : x3 = cn (pth (s.1 89) a k) := q3o
  have q4 : x4 = cn k := q4o
  subst q1; subst q3; subst q4
  have lt := Wk_lt W k (Nat.le_refl _)
  have M2 := Msk_up hI g2 hn W M
  have kn := Msk_le W M2
  unfold F_X8_ringOf_B7 F_X8_hangsWrong F_X8_hangsWrong_27
  dsimp only
  rw [if_neg (show ¬ c8 12 ≤ cn k from fun q => absurd ((cn_le (a := 12) (by omega) (by omega)).mp q) (by omega)), V_atG (c := 3) (k := ci 3) H.1 e2 hn lt (by decide) rfl, b1_some, show ixG (pth (s.1 89) a k) 3 = 15 + pth (s.1 89) a k from rfl, b1_some]
  rcases KI_c hI g2 hn lt with q | ⟨j, hj, q⟩
  · rw [if_pos q, b1_some, if_pos c0e0]
    exact pk_some (Or.inl ⟨rfl, k, W, Or.inl q⟩)
  rw [if_neg (by rw [q]; exact cn_nm1 (by omega))]
  by_cases e : s.1 89 (15 + pth (s.1 89) a k) = cn (pth (s.1 89) a k)
  · rw [if_pos e, b1_some, if_pos c0e0]
    exact pk_some (Or.inl ⟨rfl, k, W, Or.inr e⟩)
  rw [if_neg e, b1_some, if_neg c1n0]
  by_cases ej : s.1 89 (15 + pth (s.1 89) a k) = cn a
  · rw [if_pos ej]
    have k1 : 1 ≤ k := by
      cases k with
      | zero => exact absurd ej e
      | succ k => omega
    exact pk_some (Or.inr ⟨k + 1, ⟨by omega, kn, by rw [Nat.add_sub_cancel]; exact W, by rw [Nat.add_sub_cancel]; exact ej⟩, M2⟩)
  · rw [if_neg ej]
    obtain ⟨W2, ep⟩ := Wk_up W hn q hj (fun z => ej (by rw [q, z]))
    refine pk_some (show _ ∧ ∃ k', _ from ⟨rfl, k + 1, W2, M2, ?_, cnu (by omega)⟩)
    show s.1 89 (15 + pth (s.1 89) a k) = cn (pth (s.1 89) a (k + 1))
    rw [ep]; exact q
/-- the reference follows a ring: its length -/
theorem V_ringR {s : mG} {n a k : Nat} (g2 : s.1 89 112 = cn n) (hn : n ≤ 12) (R : Rng (s.1 89) n a k) : pk (F_X12_ring_L14 s (cn a) (ci 0) (cn a)) (fun v => v = cn k) := by
  obtain ⟨k2, kn, W, hw⟩ := R
  unfold F_X12_ring_L14
  refine pk_whl (fun v => v.1 = cn a ∧ ∃ i, i ≤ k ∧ v.2.1 = cn i ∧ v.2.2 = cn (if i < k then pth (s.1 89) a i else a)) ⟨rfl, 0, by omega, rfl, by rw [if_pos (by omega)]; rfl⟩ (fun v hv => ?_)
  obtain ⟨x1, x2, x3⟩ := v
  obtain ⟨q1o, i, hi, q2o, q3o⟩ := hv
  have q1 : x1 = cn a := q1o
  have q2 : x2 = cn i := q2o
  have q3 : x3 = cn (if i < k then pth (s.1 89) a i else a) := q3o
  subst q1; subst q2; subst q3
  unfold F_X12_ring_B14 F_X12_ring_55 F_X12_ring_69 F_X12_ring_39
  dsimp only
  have an := W.1
  rw [g2]
  by_cases hik : i < k
  · rw [if_pos hik]
    have lt := Wk_lt W i (by omega)
    have st : s.1 89 (15 + pth (s.1 89) a i) = cn (if i + 1 < k then pth (s.1 89) a (i + 1) else a) := by
      by_cases e : i + 1 < k
      · rw [if_pos e]; exact (W.2 i (by omega)).1
      · rw [if_neg e, show i = k - 1 by omega]; exact hw
    rw [if_neg (cn_nm1 (by omega)), if_neg (fun q => absurd ((cn_lt (by omega) (by omega)).mp q) (by omega)), show c8 15 + cn (pth (s.1 89) a i) = cn (15 + pth (s.1 89) a i) from cn_add (a := 15) (by omega), cn_nat (n := 15 + pth (s.1 89) a i) (by omega)]
    have go : pk (if cn (15 + pth (s.1 89) a i) < 0 ∨ 1894 ≤ 15 + pth (s.1 89) a i then none else some (Sum.inl (cn a, cn i + ci 1, s.1 89 (15 + pth (s.1 89) a i))) : Option ((Int32 × Int32 × Int32) ⊕ Int32)) (se (fun v : Int32 × Int32 × Int32 => v.1 = cn a ∧ ∃ i, i ≤ k ∧ v.2.1 = cn i ∧ v.2.2 = cn (if i < k then pth (s.1 89) a i else a)) (fun v : Int32 => v = cn k)) := pk_nn (pk_some (show _ ∧ ∃ i', _ from ⟨rfl, i + 1, by omega, cnu (by omega), st⟩))
    cases i with
    | zero =>
      rw [if_pos (show cn 0 = 0 by decide)]
      exact go
    | succ i =>
      rw [if_neg (show ¬ cn (i + 1) = 0 from fun q => absurd ((cn_inj (b := 0) (by omega) (by omega)).mp q) (by omega)), if_neg (show ¬ cn (pth (s.1 89) a (i + 1)) = cn a from fun q => (W.2 i (by omega)).2.2 ((cn_inj (by omega) (by omega)).mp q))]
      exact go
  · have ek : i = k := by omega
    rw [if_neg hik, if_pos rfl, if_neg (show ¬ cn i ≤ ci 1 from fun q => absurd ((cn_le (b := 1) (by omega) (by omega)).mp q) (by omega)), b1_some, if_neg (cn_nm1 (by omega)), if_neg (show ¬ cn i = 0 from fun q => absurd ((cn_inj (b := 0) (by omega) (by omega)).mp q) (by omega))]
    rw [ek]
    exact pk_li (fun _ => pk_some rfl) (fun _ => by rw [if_pos rfl]; exact pk_some rfl)
/-- no ring: nothing -/
def DdS (w : Nat → Int32) (a k i : Nat) (y : Int32) : Prop := y = ci (-1) ∨ (i ≤ k ∧ y = cn (pth w a i)) ∨ (k ≤ i ∧ y = cn (pth w a k) ∧ w (15 + pth w a k) = cn (pth w a k))
theorem DdS_up {w : Nat → Int32} {n a k i : Nat} (W : Wk w n a k) (D : w (15 + pth w a k) = ci (-1) ∨ w (15 + pth w a k) = cn (pth w a k)) {y : Int32} (hn : n ≤ 12) (h : DdS w a k i y) (hy : ¬ y = ci (-1)) : ∃ p, p < n ∧ y = cn p ∧ DdS w a k (i + 1) (w (15 + p)) := by
  rcases h with h | ⟨h1, h2⟩ | ⟨h1, h2, h3⟩
  · exact absurd h hy
  · refine ⟨_, Wk_lt W i h1, h2, ?_⟩
    by_cases e : i = k
    · subst e
      rcases D with d | d
      · exact Or.inl d
      · exact Or.inr (Or.inr ⟨by omega, d, d⟩)
    · exact Or.inr (Or.inl ⟨by omega, (W.2 i (by omega)).1⟩)
  · exact ⟨_, Wk_lt W k (Nat.le_refl _), h2, Or.inr (Or.inr ⟨by omega, h3, h3⟩)⟩
theorem DdS_a {w : Nat → Int32} {n a k i : Nat} (W : Wk w n a k) (hn : n ≤ 12) (h : DdS w a k i (cn a)) : i ≤ 1 ∨ (k = 0 ∧ w (15 + a) = cn a) := by
  have an := W.1
  rcases h with h | ⟨h1, h2⟩ | ⟨h1, h2, h3⟩
  · exact absurd h (cn_nm1 (by omega))
  · cases i with
    | zero => exact Or.inl (by omega)
    | succ i =>
      have q := W.2 i (by omega)
      exact absurd ((cn_inj (by omega) (by have := q.2.1; omega)).mp h2).symm q.2.2
  · cases k with
    | zero => exact Or.inr ⟨rfl, h3⟩
    | succ k =>
      have q := W.2 k (by omega)
      exact absurd ((cn_inj (by omega) (by have := q.2.1; omega)).mp h2).symm q.2.2
end
end
/-! 5zo.sure -/
section
noncomputable section
/-! HOW SURE, on both sides -/
theorem l32 {z : Int64} (h : 0 ≤ z.toInt ∧ z.toInt ≤ 1000000) : z.toInt32.toInt = z.toInt := by
  rw [Int64.toInt_toInt32]
  exact Int.bmod_eq_of_le (by omega) (by omega)
/-- one number, here in 32 and there in 64 bits -/
def Su (x : Int32) (y : Int64) : Prop := y = x.toInt64 ∧ 0 ≤ x.toInt ∧ x.toInt ≤ 1000000
theorem Su_t {x : Int32} {y : Int64} (h : Su x y) : y.toInt = x.toInt := by rw [h.1, Int32.toInt_toInt64]
theorem Su_r {x : Int32} {y : Int64} (h : Su x y) : 0 ≤ y.toInt ∧ y.toInt ≤ 1000000 := by rw [Su_t h]; exact h.2
theorem Su_32 {x : Int32} {y : Int64} (h : Su x y) : y.toInt32 = x := Int32.toInt_inj.mp (by rw [l32 (Su_r h), Su_t h])
theorem Su_of {y : Int64} (h : 0 ≤ y.toInt ∧ y.toInt ≤ 1000000) : Su y.toInt32 y := ⟨Int64.toInt_inj.mp (by rw [Int32.toInt_toInt64, l32 h]), by rw [l32 h]; exact h⟩
theorem x64_sub {x : Int32} (h : 0 ≤ x.toInt ∧ x.toInt ≤ 1000000) : (ci 1000000 - x).toInt64 = cl 1000000 - x.toInt64 := Int64.toInt_inj.mp (by
  rw [Int32.toInt_toInt64, r_sub (by decide : (ci 1000000).toInt = 1000000) (rfl : x.toInt = _) (by omega) (by omega), l_sub (by decide : (cl 1000000).toInt = 1000000) (Int32.toInt_toInt64 x) (by omega) (by omega)])
theorem t64_sub {x : Int32} (h : 1 ≤ x.toInt ∧ x.toInt ≤ 999) : (c16 1000 - x).toInt64 = cl 1000 - x.toInt64 := Int64.toInt_inj.mp (by
  rw [Int32.toInt_toInt64, r_sub (by decide : (c16 1000).toInt = 1000) (rfl : x.toInt = _) (by omega) (by omega), l_sub (by decide : (cl 1000).toInt = 1000) (Int32.toInt_toInt64 x) (by omega) (by omega)])
/-- after one sign -/
def byAw (y p q : Int64) : Int64 := (cl 1000000 * (y * p)) / (y * p + (cl 1000000 - y) * q)
def byS (w : Nat → Int32) (y : Int64) (k : Nat) (c : Int32) : Int64 := if c = ci 1 then byAw y (w (143 + 2 * k)).toInt64 (w (143 + 2 * k + 1)).toInt64 else byAw y (c16 1000 - w (143 + 2 * k)).toInt64 (c16 1000 - w (143 + 2 * k + 1)).toInt64
theorem byA_ok {b : mG} {y p q : Int64} (hI : IM b) (h1 : 0 ≤ y.toInt ∧ y.toInt ≤ 1000000) (h2 : 1 ≤ p.toInt ∧ p.toInt ≤ 999) (h3 : 1 ≤ q.toInt ∧ q.toInt ≤ 999) : ¬ y * p + (cl 1000000 - y) * q = 0 ∧ 0 ≤ (byAw y p q).toInt ∧ (byAw y p q).toInt ≤ 1000000 := by
  obtain ⟨v, e, r⟩ := T_X12_byA (s := b) h1 h2 h3 hI
  unfold F_X12_byA at e
  obtain ⟨hD, e⟩ := m_gn e
  have e := Option.some.inj e
  refine ⟨hD, ?_⟩
  unfold byAw
  rw [e]
  exact r
theorem sg_r {b : mG} {m k : Nat} (hI : IM b) (hw : b.1 89 115 = cn m) (hm : m ≤ 6) (hk : k < m) : (1 ≤ (b.1 89 (143 + 2 * k)).toInt ∧ (b.1 89 (143 + 2 * k)).toInt ≤ 999) ∧ 1 ≤ (b.1 89 (143 + 2 * k + 1)).toInt ∧ (b.1 89 (143 + 2 * k + 1)).toInt ≤ 999 := by
  have W8 := hI.1.2.2.2.2.2.2.2.1
  have e : (b.1 89 115).toInt = m := by rw [hw, t_cn (by omega)]
  exact ⟨W8 (2 * k) (by omega) (by omega), W8 (2 * k + 1) (by omega) (by omega)⟩
theorem byS_r {b : mG} {y : Int64} {m k : Nat} {c : Int32} (hI : IM b) (hw : b.1 89 115 = cn m) (hm : m ≤ 6) (hk : k < m) (hy : 0 ≤ y.toInt ∧ y.toInt ≤ 1000000) : 0 ≤ (byS (b.1 89) y k c).toInt ∧ (byS (b.1 89) y k c).toInt ≤ 1000000 := by
  obtain ⟨r1, r2⟩ := sg_r hI hw hm hk
  unfold byS
  by_cases h : c = ci 1
  · rw [if_pos h]
    exact (byA_ok hI hy (i64_r r1) (i64_r r2)).2
  · rw [if_neg h]
    exact (byA_ok hI hy (i64_r (s1000 r1)) (i64_r (s1000 r2))).2
theorem V_bySignR {b : mG} {y : Int64} {k : Nat} {c : Int32} (hk : k < 6) : pk (F_X12_bySign b y (cn k) c) (fun v => v = byS (b.1 89) y k c) := by
  unfold F_X12_bySign
  rw [show ci 2 * cn k = cn (2 * k) from cn_mul (a := 2) (by omega) (by omega) (by omega), show c16 143 + cn (2 * k) = cn (143 + 2 * k) from cn_add (a := 143) (by omega), show cn (143 + 2 * k) + ci 1 = cn (143 + 2 * k + 1) from cn_add (b := 1) (by omega), cn_nat (n := 143 + 2 * k) (by omega), cn_nat (n := 143 + 2 * k + 1) (by omega)]
  dsimp only
  refine pk_nn (pk_nn ?_)
  unfold F_X12_byA byS
  by_cases h : c = ci 1
  · rw [if_pos h, if_pos h, b1_id]
    exact pk_nn (pk_some rfl)
  · rw [if_neg h, if_neg h, b1_id]
    exact pk_nn (pk_some rfl)
theorem after_70 {a b : mG} {x : Int32} {p q : Int64} (hI : IM b) (hx : 0 ≤ x.toInt ∧ x.toInt ≤ 1000000) (h2 : 1 ≤ p.toInt ∧ p.toInt ≤ 999) (h3 : 1 ≤ q.toInt ∧ q.toInt ≤ 999) : F_X0_sureAfter_70 a x (x.toInt64 * p) ((ci 1000000 - x).toInt64) q = some (byAw x.toInt64 p q).toInt32 := by
  have o := byA_ok hI (i64_r hx) h2 h3
  have z : cz 0 = (0 : Int64) := by decide
  unfold F_X0_sureAfter_70
  rw [x64_sub hx, if_neg (fun e => o.1 (((lg_cmp_eq _ _).mp e).trans z)), if_neg o.1]
  rfl
theorem V_afterC {a b : mG} {x c : Int32} {y : Int64} {m k : Nat} (hI : IM b) (HS : TWr 10 2 6 115 ixS a.1 (b.1 89)) (h3 : a.1 10 3 = cn m) (hm : m ≤ 6) (hk : k < m) (hs : Su x y) (hc : c = ci 0 ∨ c = ci 1) : pk (F_X0_sureAfter a x (cn k) c) (fun u => Su u (byS (b.1 89) y k c)) := by
  have hw : b.1 89 115 = cn m := by
    obtain ⟨_, _, m', _, g3, gc, _⟩ := HS
    rw [gc]; exact g3.symm.trans h3
  obtain ⟨r1, r2⟩ := sg_r hI hw hm hk
  have rr := byS_r (c := c) hI hw hm hk (Su_r hs)
  unfold F_X0_sureAfter
  rw [V_atS (c := 0) (k := ci 0) HS h3 hm hk (by decide) rfl, b1_some, V_atS (c := 1) (k := ci 1) HS h3 hm hk (by decide) rfl, b1_some, show ixS k 0 = 143 + 2 * k from rfl, show ixS k 1 = 143 + 2 * k + 1 from rfl]
  have ey := hs.1
  unfold byS at rr ⊢
  rcases hc with e | e
  · have n1 : ¬ c = ci 1 := by rw [e]; decide
    have n0 : c = 0 := by rw [e]; exact c0e0
    rw [if_neg n1] at rr ⊢
    rw [if_pos n0]
    unfold F_X0_sureAfter_47
    rw [if_pos n0, ← t64_sub r1, ← t64_sub r2, after_70 hI hs.2 (i64_r (s1000 r1)) (i64_r (s1000 r2)), ← ey]
    exact pk_some (Su_of rr)
  · have n0 : ¬ c = 0 := by rw [e]; exact c1n0
    rw [if_pos e] at rr ⊢
    rw [if_neg n0]
    unfold F_X0_sureAfter_47
    rw [if_neg n0, after_70 hI hs.2 (i64_r r1) (i64_r r2), ← ey]
    exact pk_some (Su_of rr)
/-- after the first k signs -/
def sStart (w : Nat → Int32) (g : Nat) : Int64 := (c16 1000 * LVn w g 5).toInt64
def sFold (w : Nat → Int32) (y : Int64) (gl : Nat → Int32) : Nat → Int64
  | 0 => y
  | k + 1 => if gl k = ci (-1) then sFold w y gl k else byS w (sFold w y gl k) k (gl k)
theorem sFold_0 {w : Nat → Int32} {y : Int64} {gl : Nat → Int32} : sFold w y gl 0 = y := rfl
theorem sFold_same {w : Nat → Int32} {y : Int64} {gl gl' : Nat → Int32} : ∀ k, (∀ i, i < k → gl i = gl' i) → sFold w y gl k = sFold w y gl' k := by
  intro k
  induction k with
  | zero => intro _; rfl
  | succ k ih =>
    intro h
    unfold sFold
    rw [ih (fun i hi => h i (by omega)), h k (by omega)]
theorem sStart_u {w : Nat → Int32} {g : Nat} : Su (c16 1000 * LVn w g 5) (sStart w g) := by
  have b := LV_b (w := w) (f := FAc w g (w 0) (w 113) (w (27 + g))) (x := 5) (by decide)
  have b : 0 ≤ (LVn w g 5).toInt ∧ (LVn w g 5).toInt ≤ 1000 := b
  refine ⟨rfl, ?_⟩
  rw [r_mul (by decide : (c16 1000).toInt = 1000) (rfl : (LVn w g 5).toInt = _) (by omega) (by omega)]
  omega
/-- what was seen of a guest -/
def glw (w : Nat → Int32) (g k : Nat) : Int32 := w (39 + 6 * g + k)
theorem V_glance {w : Nat → Int32} {n nc g : Nat} {a : mG} (K : HK w n nc a) (hg : g < n) : pk (F_X0_glanceAt (cn g) a) (fun u => (∀ k, k < 6 → u.1 74 k = glw w g k) ∧ ∀ j, j ≠ 74 → u.1 j = a.1 j) := by
  have hn := K.2.2.1
  unfold F_X0_glanceAt F_X0_glanceAt_L2
  refine pk_whl (fun v => v.1 = cn g ∧ ∃ k, k ≤ 6 ∧ v.2.1 = cn k ∧ (∀ i, i < k → v.2.2.1 74 i = glw w g i) ∧ ∀ j, j ≠ 74 → v.2.2.1 j = a.1 j) ⟨rfl, 0, by omega, rfl, fun i hi => absurd hi (by omega), fun _ _ => rfl⟩ (fun v hv => ?_)
  obtain ⟨x1, x2, s⟩ := v
  obtain ⟨q1o, k, hk, q2o, q3o, ro⟩ := hv
  have q1 : x1 = cn g := q1o
  have q2 : x2 = cn k := q2o
  have q3 : ∀ i, i < k → s.1 74 i = glw w g i := q3o
  have r : ∀ j, j ≠ 74 → s.1 j = a.1 j := ro
  subst q1; subst q2
  unfold F_X0_glanceAt_B2
  dsimp only
  by_cases h6 : 6 ≤ k
  · rw [if_pos ((cn_le (by omega) (by omega)).mpr h6)]
    exact pk_some (show (∀ k, k < 6 → s.1 74 k = glw w g k) ∧ _ from ⟨fun i hi => q3 i (by omega), r⟩)
  · have HG : TWr 2 11 12 112 ixG s.1 w := TWr_same K.1.1 (r 2 (by decide)) (r 3 (by decide)) rfl (fun _ _ _ _ => rfl)
    rw [if_neg (fun q => h6 ((cn_le (by omega) (by omega)).mp q)), show ci 5 + cn k = cn (5 + k) from cn_add (a := 5) (by omega), V_atG (c := 5 + k) HG (by rw [r 2 (by decide)]; exact K.2.1) hn hg (by omega) rfl, b1_some, cn_nat (n := k) (by omega), ixG_5]
    refine pk_nn (pk_some (show _ ∧ ∃ k', _ from ⟨rfl, k + 1, by omega, cnu (by omega), fun i hi => ?_, fun j hj => (mu_row hj).trans (r j hj)⟩))
    show mu s.1 74 k (w (39 + 6 * g + k)) 74 i = glw w g i
    by_cases e : i = k
    · subst e; exact mu_same
    · rw [mu_cell (Or.inr e)]
      exact q3 i (by omega)
theorem V_byGlance {b u : mG} {n nc g m : Nat} {gl : Nat → Int32} (hI : IM b) (K : HK (b.1 89) n nc u) (hg : g < n) (h3 : u.1 10 3 = cn m) (hm : m ≤ 6) (h74 : ∀ k, k < 6 → u.1 74 k = gl k) : pk (F_X0_sureByGlance (cn g) u) (fun τ => Su τ.1 (sFold (b.1 89) (sStart (b.1 89) g) gl m) ∧ ∀ j, j ≠ 69 → j ≠ 70 → τ.2.1 j = u.1 j) := by
  have hw : b.1 89 115 = cn m := by
    obtain ⟨_, _, m', _, g3, gc, _⟩ := K.1.2.2.2.2.1
    rw [gc]; exact g3.symm.trans h3
  unfold F_X0_sureByGlance
  refine pk_b1 (V_faceK K hg) (fun u1 q1 => ?_)
  obtain ⟨k1, r1⟩ := q1
  rw [show ci 5 = cn 5 from rfl]
  refine pk_b2 (V_tellsK (x := 5) (HK_row K (fun j h1 _ _ => r1 j h1)) k1 (by decide)) (fun v5 s4 qt => ?_)
  obtain ⟨t1o, t2o⟩ := qt
  have t1 : v5 = LVn (b.1 89) g 5 := t1o
  have t2 : ∀ j, j ≠ 70 → s4.1 j = u1.1 j := t2o
  have fr : ∀ j, j ≠ 69 → j ≠ 70 → s4.1 j = u.1 j := fun j h1 h2 => (t2 j h2).trans (r1 j h1)
  have e0 : v5 * c16 1000 = c16 1000 * LVn (b.1 89) g 5 := by rw [t1, Int32.mul_comm]
  rw [e0]
  unfold F_X0_sureByGlance_L23
  refine pk_whl (fun v => ∃ k, k ≤ m ∧ v.2.1 = cn k ∧ Su v.1 (sFold (b.1 89) (sStart (b.1 89) g) gl k) ∧ ∀ j, j ≠ 69 → j ≠ 70 → v.2.2.1 j = u.1 j) ⟨0, Nat.zero_le _, rfl, by rw [sFold_0]; exact sStart_u, fr⟩ (fun v hv => ?_)
  obtain ⟨x2, x3, s⟩ := v
  obtain ⟨k, hk, p1o, p2o, ro⟩ := hv
  have p1 : x3 = cn k := p1o
  have p2 : Su x2 (sFold (b.1 89) (sStart (b.1 89) g) gl k) := p2o
  have r : ∀ j, j ≠ 69 → j ≠ 70 → s.1 j = u.1 j := ro
  subst p1
  have s10 : s.1 10 3 = cn m := by rw [r 10 (by decide) (by decide)]; exact h3
  have HS : TWr 10 2 6 115 ixS s.1 (b.1 89) := TWr_same K.1.2.2.2.2.1 (r 10 (by decide) (by decide)) (r 11 (by decide) (by decide)) rfl (fun _ _ _ _ => rfl)
  unfold F_X0_sureByGlance_B23 F_X0_sureByGlance_71 F_X0_sureByGlance_74
  dsimp only
  rw [s10]
  by_cases hkm : m ≤ k
  · have ek : k = m := by omega
    rw [if_pos ((cn_le (by omega) (by omega)).mpr hkm)]
    rw [ek] at p2
    exact pk_some (show Su x2 _ ∧ _ from ⟨p2, r⟩)
  have fs : sFold (b.1 89) (sStart (b.1 89) g) gl (k + 1) = if gl k = ci (-1) then sFold (b.1 89) (sStart (b.1 89) g) gl k else byS (b.1 89) (sFold (b.1 89) (sStart (b.1 89) g) gl k) k (gl k) := rfl
  rw [if_neg (fun q => hkm ((cn_le (by omega) (by omega)).mp q)), V_cellJ sh74 (by omega) (by decide), b1_some, show s.1 74 k = gl k by rw [r 74 (by decide) (by decide)]; exact h74 k (by omega)]
  by_cases e1 : gl k = ci (-1)
  · rw [if_pos e1]
    exact pk_some (show ∃ k', _ from ⟨k + 1, by omega, cnu (by omega), by rw [fs, if_pos e1]; exact p2, r⟩)
  rw [if_neg e1]
  by_cases e2 : gl k = ci 1
  · rw [if_pos e2]
    refine pk_b1 (V_afterC hI HS s10 hm (by omega) p2 (Or.inr rfl)) (fun z hz => ?_)
    exact pk_some (show ∃ k', _ from ⟨k + 1, by omega, cnu (by omega), by rw [fs, if_neg e1, e2]; exact hz, r⟩)
  · rw [if_neg e2]
    refine pk_b1 (V_afterC hI HS s10 hm (by omega) p2 (Or.inl rfl)) (fun z hz => ?_)
    have eq : byS (b.1 89) (sFold (b.1 89) (sStart (b.1 89) g) gl k) k (gl k) = byS (b.1 89) (sFold (b.1 89) (sStart (b.1 89) g) gl k) k (ci 0) := by
      unfold byS
      rw [if_neg e2, if_neg (show ¬ ci 0 = ci 1 by decide)]
    exact pk_some (show ∃ k', _ from ⟨k + 1, by omega, cnu (by omega), by rw [fs, if_neg e1, eq]; exact hz, r⟩)
theorem V_sureC {a b : mG} {n nc g m : Nat} (hI : IM b) (K : HK (b.1 89) n nc a) (hg : g < n) (h3 : a.1 10 3 = cn m) (hm : m ≤ 6) : pk (F_X0_sureOf (cn g) a) (fun τ => Su τ.1 (sFold (b.1 89) (sStart (b.1 89) g) (glw (b.1 89) g) m) ∧ (∀ k, k < 6 → τ.2.1 74 k = glw (b.1 89) g k) ∧ ∀ j, j ≠ 69 → j ≠ 70 → j ≠ 74 → τ.2.1 j = a.1 j) := by
  unfold F_X0_sureOf
  refine pk_b1 (V_glance K hg) (fun u q => ?_)
  obtain ⟨q1, q2⟩ := q
  have Ku : HK (b.1 89) n nc u := by
    obtain ⟨h1, h2, h3', h4, h5⟩ := K
    refine ⟨HSr1_row h1 (fun j _ h2 => q2 j (by omega)) (fun _ _ => rfl), by rw [q2 2 (by decide)]; exact h2, h3', by rw [q2 8 (by decide)]; exact h4, h5⟩
  refine pk_b2 (V_byGlance hI Ku hg (by rw [q2 10 (by decide)]; exact h3) hm q1) (fun v s qt => ?_)
  obtain ⟨t1, t2o⟩ := qt
  have t2 : ∀ j, j ≠ 69 → j ≠ 70 → s.1 j = u.1 j := t2o
  exact pk_some (show Su v _ ∧ _ ∧ _ from ⟨t1, fun k hk => by rw [show s.1 74 = u.1 74 from t2 74 (by decide) (by decide)]; exact q1 k hk, fun j h1 h2 h3 => (t2 j h1 h2).trans (q2 j h3)⟩)
theorem V_sureR {b : mG} {n nc g m : Nat} (L : LTy nc (b.1 89)) (hn : n ≤ 12) (hg : g < n) (hw : b.1 89 115 = cn m) (hm : m ≤ 6) : pk (F_X12_sureOf (cn g) b) (fun τ => τ.1 = sFold (b.1 89) (sStart (b.1 89) g) (glw (b.1 89) g) m ∧ ∀ j, j ≠ 96 → j ≠ 97 → τ.2.1 j = b.1 j) := by
  unfold F_X12_sureOf
  rw [show c8 25 = cn (20 + 5) by decide]
  refine pk_b2 (V_saysNow (x := 5) L (by omega : g < 12) (by omega)) (fun v3 s2 qt => ?_)
  obtain ⟨t1o, t2o⟩ := qt
  have t1 : v3 = LVn (b.1 89) g 5 := t1o
  have t2 : ∀ j, j ≠ 96 → j ≠ 97 → s2.1 j = b.1 j := t2o
  dsimp only
  rw [t1]
  unfold F_X12_sureOf_L16
  refine pk_whl (fun v => v.1 = cn g ∧ ∃ k, k ≤ m ∧ v.2.2.1 = cn k ∧ v.2.1 = sFold (b.1 89) (sStart (b.1 89) g) (glw (b.1 89) g) k ∧ ∀ j, j ≠ 96 → j ≠ 97 → v.2.2.2.1 j = b.1 j) ⟨rfl, 0, Nat.zero_le _, rfl, rfl, t2⟩ (fun v hv => ?_)
  obtain ⟨x1, x2, x4, s⟩ := v
  obtain ⟨p0o, k, hk, p1o, p2o, ro⟩ := hv
  have p0 : x1 = cn g := p0o
  have p1 : x4 = cn k := p1o
  have p2 : x2 = sFold (b.1 89) (sStart (b.1 89) g) (glw (b.1 89) g) k := p2o
  have r : ∀ j, j ≠ 96 → j ≠ 97 → s.1 j = b.1 j := ro
  subst p0; subst p1; subst p2
  have e89 : s.1 89 = b.1 89 := r 89 (by decide) (by decide)
  unfold F_X12_sureOf_B16 F_X12_sureOf_70
  dsimp only
  rw [e89, hw]
  by_cases hkm : m ≤ k
  · have ek : k = m := by omega
    rw [if_pos ((cn_le (by omega) (by omega)).mpr hkm)]
    exact pk_some (show sFold (b.1 89) (sStart (b.1 89) g) (glw (b.1 89) g) k = sFold (b.1 89) (sStart (b.1 89) g) (glw (b.1 89) g) m ∧ _ from ⟨by rw [ek], r⟩)
  have fs : sFold (b.1 89) (sStart (b.1 89) g) (glw (b.1 89) g) (k + 1) = if glw (b.1 89) g k = ci (-1) then sFold (b.1 89) (sStart (b.1 89) g) (glw (b.1 89) g) k else byS (b.1 89) (sFold (b.1 89) (sStart (b.1 89) g) (glw (b.1 89) g) k) k (glw (b.1 89) g k) := rfl
  rw [if_neg (fun q => hkm ((cn_le (by omega) (by omega)).mp q)), ei_G (by omega), cn_nat (n := 39 + 6 * g + k) (by omega), show b.1 89 (39 + 6 * g + k) = glw (b.1 89) g k from rfl]
  refine pk_nn ?_
  by_cases e1 : glw (b.1 89) g k = ci (-1)
  · rw [if_pos e1]
    exact pk_some (show _ ∧ ∃ k', _ from ⟨rfl, k + 1, by omega, cnu (by omega), by rw [fs, if_pos e1], r⟩)
  rw [if_neg e1]
  refine pk_nn (pk_b1 (V_bySignR (by omega : k < 6)) (fun z hz => ?_))
  rw [e89] at hz
  exact pk_some (show _ ∧ ∃ k', _ from ⟨rfl, k + 1, by omega, cnu (by omega), by rw [fs, if_neg e1]; exact hz, r⟩)
/-- what a thinking call knows -/
theorem SIM_S {a b : mG} (h : SIM a b) : ∃ n nc m, HK (b.1 89) n nc a ∧ b.1 89 112 = cn n ∧ VIm n (b.1 89) ∧ m ≤ 6 ∧ a.1 10 3 = cn m ∧ b.1 89 115 = cn m := by
  obtain ⟨n, nc, K, g2, V⟩ := SIM_K h
  obtain ⟨_, _, m, hm, g3, gc, _⟩ := K.1.2.2.2.2.1
  exact ⟨n, nc, m, K, g2, V, hm, g3, gc⟩
theorem R_of {a b : mG} {x y : Int32} (hI : IM b) (h : SIM a b) : rel (F_X11_of x y a) (F_X12_of x y b) (fun τ υ => τ.1 = υ.1) := by
  obtain ⟨n, nc, m, K, g2, V, hm, h3, hw⟩ := SIM_S h
  have hn := K.2.2.1
  unfold F_X11_of F_X12_of
  rw [V_isGuest, V_isGuestR g2 hn, b1_some, b1_some, show a.1 (1 + 1) 3 = cn n from K.2.1]
  refine rel_ifs Iff.rfl (fun _ => rel_some rfl) (fun hx => ?_)
  obtain ⟨g, hg, ex⟩ := ig_cn (by omega) hx
  subst ex
  rw [V_within, b1_some]
  dsimp only
  by_cases hy : wi y (ci 0) (ci 4) = 0
  · have ny : ∀ c : Nat, c ≤ 4 → ¬ y = cn c := fun c hc e => by
      rw [e] at hy
      have : ∀ c, c ≤ 4 → ¬ wi (cn c) (ci 0) (ci 4) = 0 := by decide
      exact this c hc hy
    rw [if_pos hy, if_neg (show ¬ y = ci 0 from ny 0 (by omega)), if_neg (show ¬ y = ci 1 from ny 1 (by omega)), if_neg (show ¬ y = ci 2 from ny 2 (by omega)), if_neg (show ¬ y = ci 3 from ny 3 (by omega)), if_neg (show ¬ y = ci 4 from ny 4 (by omega))]
    by_cases h5 : y = ci 5
    · rw [if_pos h5, if_pos h5]
      refine rel_b2 (rel_pk (R := fun τ υ => Su τ.1 υ.1) (V_sureC hI K hg h3 hm) (V_sureR K.2.2.2.2 hn hg hw hm) (fun u v p q => by rw [q.1]; exact p.1)) (fun u u' v v' e => ?_)
      have e : Su u v := e
      exact rel_some (show u = v.toInt32 from (Su_32 e).symm)
    rw [if_neg h5, if_neg h5, V_within, F_isIn, b1_some, b1_some]
    refine rel_ifs Iff.rfl (fun _ => rel_some rfl) (fun hz => ?_)
    obtain ⟨z, hz6, ez⟩ : ∃ z : Nat, z < 6 ∧ y = cn (6 + z) := by
      obtain ⟨z1, z2⟩ := wi_f hz
      rw [show (c8 6).toInt = 6 by decide] at z1
      rw [show (c8 11).toInt = 11 by decide] at z2
      exact ⟨y.toInt.toNat - 6, by omega, by rw [show 6 + (y.toInt.toNat - 6) = y.toInt.toNat by omega]; exact cnof (by omega)⟩
    rw [show y - c8 6 = cn z by rw [ez, show c8 6 = cn 6 by decide, cn_sub (by omega) (by omega)]; congr 1; omega, show (c8 20 + y) - c8 6 = cn (20 + z) by rw [ez, show c8 20 = cn 20 by decide, show c8 6 = cn 6 by decide, cn_add (by omega), cn_sub (by omega) (by omega)]; congr 1; omega]
    refine rel_l1 (V_faceK K hg) (fun u qu => ?_)
    refine rel_b2 (rel_pk (R := fun τ υ => τ.1 = υ.1) (V_tellsK (x := z) (HK_row K (fun j h1 _ _ => qu.2 j h1)) qu.1 hz6) (V_saysNow K.2.2.2.2 (by omega : g < 12) hz6) (fun u v p q => p.1.trans q.1.symm)) (fun u u' v v' e => rel_some e)
  · obtain ⟨c, hc, ey⟩ := wi_cn (l := 4) (by omega) hy
    subst ey
    rw [if_neg hy, V_atG (c := c) K.1.1 K.2.1 hn hg (by omega) rfl, b1_some, show c8 119 + cn g = cn (119 + g) from cn_add (a := 119) (by omega), show c16 131 + cn g = cn (131 + g) from cn_add (a := 131) (by omega), show ci 3 + cn g = cn (3 + g) from cn_add (a := 3) (by omega), show c8 15 + cn g = cn (15 + g) from cn_add (a := 15) (by omega), show c8 27 + cn g = cn (27 + g) from cn_add (a := 27) (by omega), cn_nat (n := 119 + g) (by omega), cn_nat (n := 131 + g) (by omega), cn_nat (n := 3 + g) (by omega), cn_nat (n := 15 + g) (by omega), cn_nat (n := 27 + g) (by omega)]
    rcases (show c = 0 ∨ c = 1 ∨ c = 2 ∨ c = 3 ∨ c = 4 by omega) with e | e | e | e | e <;> subst e
    · rw [if_pos (show cn 0 = ci 0 from rfl)]
      exact rel_rg (rel_some rfl)
    · rw [if_neg (show ¬ cn 1 = ci 0 by decide), if_pos (show cn 1 = ci 1 from rfl)]
      exact rel_rg (rel_some rfl)
    · rw [if_neg (show ¬ cn 2 = ci 0 by decide), if_neg (show ¬ cn 2 = ci 1 by decide), if_pos (show cn 2 = ci 2 from rfl)]
      exact rel_rg (rel_some rfl)
    · rw [if_neg (show ¬ cn 3 = ci 0 by decide), if_neg (show ¬ cn 3 = ci 1 by decide), if_neg (show ¬ cn 3 = ci 2 by decide), if_pos (show cn 3 = ci 3 from rfl)]
      exact rel_rg (rel_some rfl)
    · rw [if_neg (show ¬ cn 4 = ci 0 by decide), if_neg (show ¬ cn 4 = ci 1 by decide), if_neg (show ¬ cn 4 = ci 2 by decide), if_neg (show ¬ cn 4 = ci 3 by decide), if_pos (show cn 4 = ci 4 from rfl)]
      exact rel_rg (rel_some rfl)
end
end
/-! 5zp1.visit -/
section
noncomputable section
/-! THE BEST HOUR FOR A VISIT, on both sides -/
theorem Su_le {x x' : Int32} {y y' : Int64} (h : Su x y) (h' : Su x' y') : x ≤ x' ↔ ¬ 0 < lg_cmp y y' := by
  have e1 := Su_t h
  have e2 := Su_t h'
  have e3 := lg_cmp_gt y y'
  rw [Int64.lt_iff_toInt_lt, e1, e2] at e3
  rw [e3, Int32.le_iff_toInt_le]
  exact Int.not_lt.symm
theorem mix_i {X P Q : Int} (h0 : 0 ≤ X) (h1 : X ≤ 1000000) (p0 : 0 ≤ P) (p1 : P ≤ 1000) (q0 : 0 ≤ Q) (q1 : Q ≤ 1000) : ∃ A B C D : Int, X * P = A ∧ (1000000 - X) * Q = B ∧ A / 1000 = C ∧ B / 1000 = D ∧ (0 ≤ A ∧ A < 2147483648) ∧ (0 ≤ B ∧ B < 2147483648) ∧ (0 ≤ X - C ∧ X - C < 2147483648) ∧ 0 ≤ X - C + D ∧ X - C + D ≤ 1000000 := by
  have a0 : 0 ≤ X * P := Int.mul_nonneg h0 p0
  have a1 : X * P ≤ X * 1000 := Int.mul_le_mul_of_nonneg_left p1 h0
  have d0 : 0 ≤ (1000000 - X) * Q := Int.mul_nonneg (by omega) q0
  have d1 : (1000000 - X) * Q ≤ (1000000 - X) * 1000 := Int.mul_le_mul_of_nonneg_left q1 (by omega)
  generalize X * P = A at a0 a1
  generalize (1000000 - X) * Q = B at d0 d1
  exact ⟨A, B, A / 1000, B / 1000, rfl, rfl, rfl, rfl, ⟨a0, by omega⟩, ⟨d0, by omega⟩, ⟨by omega, by omega⟩, by omega, by omega⟩
end
end
/-! 5zp2.visit -/
section
noncomputable section
theorem lo32 {A : Int} (h : 0 ≤ A ∧ A < 2147483648) : (-2147483648 ≤ A ∧ A < 2147483648) ∧ -9223372036854775808 ≤ A ∧ A < 9223372036854775808 := by omega
theorem mix_32 {x p q : Int32} {A B C D : Int} (hx : 0 ≤ x.toInt ∧ x.toInt ≤ 1000000) (hA : x.toInt * p.toInt = A) (hB : (1000000 - x.toInt) * q.toInt = B) (hC : A / 1000 = C) (hD : B / 1000 = D) (a : 0 ≤ A ∧ A < 2147483648) (b : 0 ≤ B ∧ B < 2147483648) (c : 0 ≤ x.toInt - C ∧ x.toInt - C < 2147483648) (d : 0 ≤ x.toInt - C + D ∧ x.toInt - C + D < 2147483648) : ((x - (x * p) / c16 1000) + ((ci 1000000 - x) * q) / c16 1000).toInt = x.toInt - C + D := by
  have s1 : (ci 1000000 - x).toInt = 1000000 - x.toInt := r_sub (by decide : (ci 1000000).toInt = 1000000) rfl (by omega) (by omega)
  have aa := (lo32 a).1
  have bb := (lo32 b).1
  have cc := (lo32 c).1
  have dd := (lo32 d).1
  have k : (c16 1000).toInt = 1000 := by decide
  have c1 : (x * p).toInt = A := by
    rw [← hA] at aa ⊢
    exact r_mul rfl rfl aa.1 aa.2
  have c2 : ((ci 1000000 - x) * q).toInt = B := by
    rw [← hB] at bb ⊢
    exact r_mul s1 rfl bb.1 bb.2
  have f1 : ((x * p) / c16 1000).toInt = C := (t_div c1 k a.1 (by decide)).trans hC
  have f2 : (((ci 1000000 - x) * q) / c16 1000).toInt = D := (t_div c2 k b.1 (by decide)).trans hD
  have u1 : (x - (x * p) / c16 1000).toInt = x.toInt - C := r_sub rfl f1 cc.1 cc.2
  exact r_add u1 f2 dd.1 dd.2
theorem mix_64 {X : Int} {y p q : Int64} {P Q A B C D : Int} (hy : y.toInt = X) (hp : p.toInt = P) (hq : q.toInt = Q) (hx : 0 ≤ X ∧ X ≤ 1000000) (hA : X * P = A) (hB : (1000000 - X) * Q = B) (hC : A / 1000 = C) (hD : B / 1000 = D) (a : 0 ≤ A ∧ A < 2147483648) (b : 0 ≤ B ∧ B < 2147483648) (c : 0 ≤ X - C ∧ X - C < 2147483648) (d : 0 ≤ X - C + D ∧ X - C + D < 2147483648) : ((y - (y * p) / cl 1000) + ((cl 1000000 - y) * q) / cl 1000).toInt = X - C + D := by
  have s1 : (cl 1000000 - y).toInt = 1000000 - X := l_sub (by decide : (cl 1000000).toInt = 1000000) hy (by omega) (by omega)
  have aa := (lo32 a).2
  have bb := (lo32 b).2
  have cc := (lo32 c).2
  have dd := (lo32 d).2
  have k : (cl 1000).toInt = 1000 := by decide
  have c1 : (y * p).toInt = A := by
    rw [← hA] at aa ⊢
    exact l_mul hy hp aa.1 aa.2
  have c2 : ((cl 1000000 - y) * q).toInt = B := by
    rw [← hB] at bb ⊢
    exact l_mul s1 hq bb.1 bb.2
  have f1 : ((y * p) / cl 1000).toInt = C := (l_div c1 k a.1 (by decide) aa.2).trans hC
  have f2 : (((cl 1000000 - y) * q) / cl 1000).toInt = D := (l_div c2 k b.1 (by decide) bb.2).trans hD
  have u1 : (y - (y * p) / cl 1000).toInt = X - C := l_sub hy f1 cc.1 cc.2
  exact l_add u1 f2 dd.1 dd.2
theorem Su_mix {x p q : Int32} {y : Int64} (h : Su x y) (hp : 0 ≤ p.toInt ∧ p.toInt ≤ 1000) (hq : 0 ≤ q.toInt ∧ q.toInt ≤ 1000) : Su ((x - (x * p) / c16 1000) + ((ci 1000000 - x) * q) / c16 1000) ((y - (y * p.toInt64) / cl 1000) + ((cl 1000000 - y) * q.toInt64) / cl 1000) := by
  obtain ⟨A, B, C, D, hA, hB, hC, hD, ra, rb, rc, d1, d2⟩ := mix_i h.2.1 h.2.2 hp.1 hp.2 hq.1 hq.2
  have rd : 0 ≤ x.toInt - C + D ∧ x.toInt - C + D < 2147483648 := ⟨d1, Int.lt_of_le_of_lt d2 (by decide)⟩
  have u := mix_32 h.2 hA hB hC hD ra rb rc rd
  have v := mix_64 (Su_t h) (Int32.toInt_toInt64 p) (Int32.toInt_toInt64 q) h.2 hA hB hC hD ra rb rc rd
  refine (show _ ∧ _ ∧ _ from ⟨Int64.toInt_inj.mp (v.trans ((Int32.toInt_toInt64 _).trans u).symm), ?_, ?_⟩)
  · rw [u]; exact d1
  · rw [u]; exact d2
end
end
/-! 5zp3.visit -/
section
noncomputable section
/-- one more hour -/
theorem hr_k {h : Int32} {k : Nat} (hk : k + 1 < 2147483648) : (h + cn (k + 1)) - ci 1 = h + cn k := by
  rw [← cnu hk, ← Int32.add_assoc, Int32.add_sub_cancel]
end
end
/-! 5zp4.visit -/
section
noncomputable section
theorem R_best {a b : mG} {n nc g : Nat} {x c : Int32} {y : Int64} (K : HK (b.1 89) n nc a) (hg : g < n) (hs : Su x y) {z : mG} (hz : ∀ j, j ≠ 96 → j ≠ 97 → z.1 j = b.1 j) : rel (F_X1_bestVisit (cn g) x c a) (F_X12_visit_L34 (cn g) c y (ci 0) y (ci 0) z) (fun τ υ => τ.1 = υ.1) := by
  have hn := K.2.2.1
  unfold F_X1_bestVisit
  refine rel_l1 (V_faceK K hg) (fun u0 q0 => ?_)
  obtain ⟨k0, r0⟩ := q0
  unfold F_X1_bestVisit_L20 F_X12_visit_L34
  refine rel_whl (fun v w => v.1 = c ∧ w.1 = cn g ∧ w.2.1 = c ∧ Su v.2.1 w.2.2.1 ∧ v.2.2.1 = w.2.2.2.1 ∧ Su v.2.2.2.1 w.2.2.2.2.1 ∧ (∃ k, k ≤ 23 ∧ v.2.2.2.2.1 = cn (k + 1) ∧ w.2.2.2.2.2.1 = cn k) ∧ (∃ hh, KNc (b.1 89) g hh (b.1 89 113) (b.1 89 (27 + g)) v.2.2.2.2.2) ∧ (∀ j, j ≠ 69 → j ≠ 70 → v.2.2.2.2.2.1 j = a.1 j) ∧ ∀ j, j ≠ 96 → j ≠ 97 → w.2.2.2.2.2.2.1 j = b.1 j) ⟨rfl, rfl, rfl, hs, rfl, hs, ⟨0, by omega, rfl, rfl⟩, ⟨_, k0⟩, fun j h1 _ => r0 j h1, hz⟩ (fun v w hvw => ?_)
  obtain ⟨x3, x4, x5, x6, x7, s⟩ := v
  obtain ⟨y1, y2, y3, y5, y6, y8, t⟩ := w
  obtain ⟨q1o, q2o, q3o, q4o, q5o, q6o, ⟨k, hk, q7o, q8o⟩, ⟨hh, kno⟩, r1o, r2o⟩ := hvw
  have q1 : x3 = c := q1o
  have q2 : y1 = cn g := q2o
  have q3 : y2 = c := q3o
  have q4 : Su x4 y3 := q4o
  have q5 : x5 = y5 := q5o
  have q6 : Su x6 y6 := q6o
  have q7 : x7 = cn (k + 1) := q7o
  have q8 : y8 = cn k := q8o
  have kn : KNc (b.1 89) g hh (b.1 89 113) (b.1 89 (27 + g)) s := kno
  have r1 : ∀ j, j ≠ 69 → j ≠ 70 → s.1 j = a.1 j := r1o
  have r2 : ∀ j, j ≠ 96 → j ≠ 97 → t.1 j = b.1 j := r2o
  clear q1o q2o q3o q4o q5o q6o q7o q8o kno r1o r2o
  rw [q1, q2, q3, q5, q7, q8]
  have Ks : HK (b.1 89) n nc s := HK_row K (fun j h1 h2 _ => r1 j h1 h2)
  have e89 : t.1 89 = b.1 89 := r2 89 (by decide) (by decide)
  have e10 : s.1 1 10 = b.1 89 0 := Ks.1.2.2.2.2.2.2.2.2.2.2.1
  unfold F_X1_bestVisit_B20 F_X12_visit_B34 F_X1_bestVisit_108 F_X12_visit_154
  dsimp only
  by_cases hk2 : 23 ≤ k
  · rw [if_pos (show c8 24 ≤ cn (k + 1) from (cn_le (a := 24) (by omega) (by omega)).mpr (by omega)), if_pos (show c8 23 ≤ cn k from (cn_le (a := 23) (by omega) (by omega)).mpr hk2)]
    refine rel_ifs Iff.rfl (fun _ => rel_some rfl) (fun _ => rel_some ?_)
    show x6 = y6.toInt32
    exact (Su_32 q6).symm
  rw [if_neg (show ¬ c8 24 ≤ cn (k + 1) from fun q => hk2 (by have := (cn_le (a := 24) (by omega) (by omega)).mp q; omega)), if_neg (show ¬ c8 23 ≤ cn k from fun q => hk2 ((cn_le (a := 23) (by omega) (by omega)).mp q)), e10, hr_k (by omega), show c8 27 + cn g = cn (27 + g) from cn_add (a := 27) (by omega), cn_nat (n := 27 + g) (by omega), e89, show c8 20 = cn (20 + 0) by decide, show c8 21 = cn (20 + 1) by decide]
  refine rel_rg ?_
  refine rel_l1 (V_supposeHour kn) (fun u qu => ?_)
  obtain ⟨k1, f1⟩ := qu
  have Ku : HK (b.1 89) n nc u := HK_row Ks (fun j h1 _ _ => f1 j h1)
  rw [show ci 0 = cn 0 from rfl, show ci 1 = cn 1 from rfl]
  refine rel_l2 (V_tellsK (x := 0) Ku k1 (by decide)) (fun v9 s8 qt => ?_)
  obtain ⟨t1o, t2o⟩ := qt
  have t1 : v9 = LV (b.1 89) (FAc (b.1 89) g (b.1 89 0 + cn k) (b.1 89 113) (b.1 89 (27 + g))) 0 := t1o
  have t2 : ∀ j, j ≠ 70 → s8.1 j = u.1 j := t2o
  have k2 : KNc (b.1 89) g (b.1 89 0 + cn k) (b.1 89 113) (b.1 89 (27 + g)) s8 := fun j hj => by rw [t2 69 (by decide)]; exact k1 j hj
  have K8 : HK (b.1 89) n nc s8 := HK_row Ku (fun j _ h2 _ => t2 j h2)
  refine rel_l2 (V_tellsK (x := 1) K8 k2 (by decide)) (fun v13 s12 qt => ?_)
  obtain ⟨t3o, t4o⟩ := qt
  have t3 : v13 = LV (b.1 89) (FAc (b.1 89) g (b.1 89 0 + cn k) (b.1 89 113) (b.1 89 (27 + g))) 1 := t3o
  have t4 : ∀ j, j ≠ 70 → s12.1 j = s8.1 j := t4o
  have k3 : KNc (b.1 89) g (b.1 89 0 + cn k) (b.1 89 113) (b.1 89 (27 + g)) s12 := fun j hj => by rw [t4 69 (by decide)]; exact k2 j hj
  have fr : ∀ j, j ≠ 69 → j ≠ 70 → s12.1 j = a.1 j := fun j h1 h2 => (t4 j h2).trans ((t2 j h2).trans ((f1 j h1).trans (r1 j h1 h2)))
  refine rel_r2 (V_says (x := 0) (nc := nc) (by rw [e89]; exact K.2.2.2.2) (by omega : g < 12) (by decide)) (fun v15 s14 qs => ?_)
  obtain ⟨u1o, u2o⟩ := qs
  rw [e89] at u1o
  have u1 : v15 = LV (b.1 89) (FAc (b.1 89) g (b.1 89 0 + cn k) (b.1 89 113) (b.1 89 (27 + g))) 0 := u1o
  have u2 : ∀ j, j ≠ 96 → j ≠ 97 → s14.1 j = t.1 j := u2o
  have f89 : s14.1 89 = b.1 89 := (u2 89 (by decide) (by decide)).trans e89
  refine rel_rg ?_
  rw [f89]
  refine rel_r2 (V_says (x := 1) (nc := nc) (by rw [f89]; exact K.2.2.2.2) (by omega : g < 12) (by decide)) (fun v19 s18 qs => ?_)
  obtain ⟨w1o, w2o⟩ := qs
  rw [f89] at w1o
  have w1 : v19 = LV (b.1 89) (FAc (b.1 89) g (b.1 89 0 + cn k) (b.1 89 113) (b.1 89 (27 + g))) 1 := w1o
  have w2 : ∀ j, j ≠ 96 → j ≠ 97 → s18.1 j = s14.1 j := w2o
  have fr2 : ∀ j, j ≠ 96 → j ≠ 97 → s18.1 j = b.1 j := fun j h1 h2 => (w2 j h1 h2).trans ((u2 j h1 h2).trans (r2 j h1 h2))
  have ev : v9 = v15 := t1.trans u1.symm
  have ew : v13 = v19 := t3.trans w1.symm
  have b9 : 0 ≤ v15.toInt ∧ v15.toInt ≤ 1000 := by rw [u1]; exact LV_b (by decide)
  have b13 : 0 ≤ v19.toInt ∧ v19.toInt ≤ 1000 := by rw [w1]; exact LV_b (by decide)
  rw [ev, ew]
  have M := Su_mix q4 b9 b13
  refine rel_ri (fun hc => ?_) (fun hc => ?_)
  · rw [if_neg (fun q => (Su_le M q6).mp q hc)]
    exact rel_some (show _ ∧ _ ∧ _ ∧ _ ∧ _ ∧ _ ∧ (∃ k', _) ∧ _ ∧ _ ∧ _ from ⟨rfl, rfl, rfl, M, (cnu (by omega)).symm, M, ⟨k + 1, by omega, cnu (by omega), cnu (by omega)⟩, ⟨_, k3⟩, fr, fr2⟩)
  · rw [if_pos ((Su_le M q6).mpr hc)]
    exact rel_some (show _ ∧ _ ∧ _ ∧ _ ∧ _ ∧ _ ∧ (∃ k', _) ∧ _ ∧ _ ∧ _ from ⟨rfl, rfl, rfl, M, rfl, q6, ⟨k + 1, by omega, cnu (by omega), cnu (by omega)⟩, ⟨_, k3⟩, fr, fr2⟩)
end
end
/-! 5zp5.visit -/
section
noncomputable section
theorem R_visit {a b : mG} {x y : Int32} (hI : IM b) (h : SIM a b) : rel (F_X11_visit x y a) (F_X12_visit x y b) (fun τ υ => τ.1 = υ.1) := by
  obtain ⟨n, nc, m, K, g2, V, hm, h3, hw⟩ := SIM_S h
  have hn := K.2.2.1
  unfold F_X11_visit F_X12_visit F_X11_visit_20 F_X12_visit_17
  rw [V_isGuest, V_isGuestR g2 hn, b1_some, b1_some, show a.1 (1 + 1) 3 = cn n from K.2.1]
  refine rel_ifs Iff.rfl (fun _ => rel_some rfl) (fun hx => ?_)
  obtain ⟨g, hg, ex⟩ := ig_cn (by omega) hx
  subst ex
  rw [V_within, F_isIn, b1_some, b1_some]
  refine rel_ifs Iff.rfl (fun _ => rel_some rfl) (fun hy => ?_)
  refine rel_b2 (rel_pk (R := fun τ υ => Su τ.1 υ.1 ∧ (∀ j, j ≠ 69 → j ≠ 70 → j ≠ 74 → τ.2.1 j = a.1 j) ∧ ∀ j, j ≠ 96 → j ≠ 97 → υ.2.1 j = b.1 j) (V_sureC hI K hg h3 hm) (V_sureR K.2.2.2.2 hn hg hw hm) (fun u v p q => ⟨by rw [q.1]; exact p.1, p.2.2, q.2⟩)) (fun u s v t e => ?_)
  obtain ⟨e1o, e2o, e3o⟩ := e
  have e1 : Su u v := e1o
  have e2 : ∀ j, j ≠ 69 → j ≠ 70 → j ≠ 74 → s.1 j = a.1 j := e2o
  have e3 : ∀ j, j ≠ 96 → j ≠ 97 → t.1 j = b.1 j := e3o
  have Ks : HK (b.1 89) n nc s := by
    obtain ⟨h1, h2, h3', h4, h5⟩ := K
    refine ⟨?_, by rw [e2 2 (by decide) (by decide) (by decide)]; exact h2, h3', by rw [e2 8 (by decide) (by decide) (by decide)]; exact h4, h5⟩
    exact HSr1_row h1 (fun j _ h2 => e2 j (by omega) (by omega) (by omega)) (fun _ _ => rfl)
  unfold F_X11_visit_45
  obtain ⟨c, hc, ey⟩ := wi_cn (l := 1) (by omega) hy
  subst ey
  rcases (show c = 0 ∨ c = 1 by omega) with e | e <;> subst e
  · rw [if_neg (show ¬ cn 0 = ci 1 by decide), b2_id, show cn 0 = ci 0 from rfl]
    exact R_best Ks hg e1 e3
  · rw [if_pos (show cn 1 = ci 1 from rfl), b2_id, show cn 1 = ci 1 from rfl]
    exact R_best Ks hg e1 e3
end
end
