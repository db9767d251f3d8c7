noncomputable section
/-! WHAT THE CODE OF A LAW COMES TO: a pile, its top first -/
theorem pk_bw {σ ρ : Type} {o : Option (σ ⊕ ρ)} {k : σ → Option ρ} {Q : ρ → Prop} (h : pk o (se (fun v => pk (k v) Q) Q)) : pk (bw o k) Q := fun τ e => by
  cases o with
  | none => cases e
  | some s =>
    cases s with
    | inl v => exact (h _ rfl : pk (k v) Q) τ e
    | inr a => exact Option.some.inj e ▸ (h _ rfl : Q a)
theorem t_div {x c : Int32} {m d : Int} (hx : x.toInt = m) (hc : c.toInt = d) (h0 : 0 ≤ m) (hd : 0 < d) : (x / c).toInt = m / d := by
  subst hx; subst hc
  have h1 : x.toInt / c.toInt ≤ x.toInt := Int.ediv_le_self _ h0
  have h2 : 0 ≤ x.toInt / c.toInt := Int.ediv_nonneg h0 (by omega)
  have h3 := @t_lt x
  rw [Int32.toInt_div, Int.tdiv_eq_ediv_of_nonneg h0]
  exact Int.bmod_eq_of_le (by omega) (by omega)
theorem t_rm {x c : Int32} {m d : Int} (hx : x.toInt = m) (hc : c.toInt = d) (h0 : 0 ≤ m) (hd : 0 < d) : (rm x c).toInt = m % d := by
  have e := t_div hx hc h0 hd
  have h1 : m / d * d ≤ m := Int.ediv_mul_le m (by omega)
  have h2 : 0 ≤ m / d * d := Int.mul_nonneg (Int.ediv_nonneg h0 (by omega)) (by omega)
  have h3 := @t_lt x
  have e2 := r_mul e hc (by omega) (by omega)
  show (x - x / c * c).toInt = m % d
  rw [r_sub hx e2 (by omega) (by omega), Int.emod_def, Int.mul_comm]
def op2 (k a b : Int32) : Int32 := if k = ci 23 then a + b else if k = ci 24 then a - b else if k = ci 25 then a * b else if k = ci 26 then a ||| b else if k = ci 27 then (if b ≤ a then ci 0 else ci 1) else if k = ci 28 then (if a = b then ci 1 else ci 0) else if k = ci 29 then (if a ≤ b then ci 0 else ci 1) else if k = ci 30 then a ||| b else if k = ci 31 then a &&& b else a ||| b
theorem V_both {s : mG} {k a b : Int32} : F_X12_both s k a b = some (op2 k a b) := by
  unfold F_X12_both F_X12_both_101 op2
  repeat' (first | rfl | split)
def ev1 (f : Nat → Int32) (k v : Int32) (st : List Int32) : List Int32 :=
  if k.toInt < 23 then (if k = 0 then v else f k.toNatClampNeg) :: st
  else if k.toInt = 26 then (match st with
    | x :: r => (x / v) :: r
    | [] => [])
  else if k.toInt = 30 then (match st with
    | x :: r => (ci 1 - x) :: r
    | [] => [])
  else match st with
    | y :: x :: r => op2 k x y :: r
    | r => r
def evs (c f : Nat → Int32) : Nat → Nat → List Int32 → List Int32
  | _, 0, st => st
  | k, n + 1, st => evs c f (k + 1) n (ev1 f (c (2 * k)) (c (2 * k + 1)) st)
def PBz (x : Int32) : Prop := x = ci 0 ∨ x = ci 1
def tyd : List Bool → List Int32 → Prop
  | [], [] => True
  | b :: ts, x :: st => (b = true → PBz x) ∧ tyd ts st
  | [], _ :: _ => False
  | _ :: _, [] => False
theorem tyd_len : ∀ {ts : List Bool} {st : List Int32}, tyd ts st → st.length = ts.length := by
  intro ts
  induction ts with
  | nil =>
    intro st h
    cases st with
    | nil => rfl
    | cons x r => cases h
  | cons b ts ih =>
    intro st h
    cases st with
    | nil => cases h
    | cons x r => simp [ih h.2]
theorem tyd_1 {b : Bool} {ts : List Bool} {st : List Int32} (h : tyd (b :: ts) st) : ∃ x r, st = x :: r ∧ (b = true → PBz x) ∧ tyd ts r := by
  cases st with
  | nil => cases h
  | cons x r => exact ⟨x, r, rfl, h.1, h.2⟩
theorem i32_of {k : Int32} {n : Int} (h : k.toInt = n) (h1 : -2147483648 ≤ n) (h2 : n < 2147483648) : k = ci n := Int32.toInt_inj.mp (by rw [h, t_ci h1 h2])
theorem op2_ty {k x y : Int32} {a b : Bool} (h23 : 23 ≤ k.toInt) (ha : a = true → PBz y) (hb : b = true → PBz x) (h : opT k a b = true) : PBz (op2 k x y) := by
  unfold opT at h
  by_cases h1 : 27 ≤ k.toInt ∧ k.toInt ≤ 29
  · have e : k = ci 27 ∨ k = ci 28 ∨ k = ci 29 := by
      have : k.toInt = 27 ∨ k.toInt = 28 ∨ k.toInt = 29 := by omega
      rcases this with e | e | e
      · exact Or.inl (i32_of e (by decide) (by decide))
      · exact Or.inr (Or.inl (i32_of e (by decide) (by decide)))
      · exact Or.inr (Or.inr (i32_of e (by decide) (by decide)))
    rcases e with e | e | e <;> subst e
    · unfold op2
      rw [if_neg (by decide), if_neg (by decide), if_neg (by decide), if_neg (by decide), if_pos rfl]
      split
      · exact Or.inl rfl
      · exact Or.inr rfl
    · unfold op2
      rw [if_neg (by decide), if_neg (by decide), if_neg (by decide), if_neg (by decide), if_neg (by decide), if_pos rfl]
      split
      · exact Or.inr rfl
      · exact Or.inl rfl
    · unfold op2
      rw [if_neg (by decide), if_neg (by decide), if_neg (by decide), if_neg (by decide), if_neg (by decide), if_neg (by decide), if_pos rfl]
      split
      · exact Or.inl rfl
      · exact Or.inr rfl
  · rw [if_neg h1] at h
    by_cases h2 : k.toInt = 31 ∨ k.toInt = 32
    · rw [if_pos h2] at h
      have h3 : a = true ∧ b = true := by
        cases a <;> cases b <;> simp at h ⊢
      have p := ha h3.1
      have q := hb h3.2
      rcases h2 with e | e
      · have e := i32_of e (by decide) (by decide)
        subst e
        unfold op2
        rw [if_neg (by decide), if_neg (by decide), if_neg (by decide), if_neg (by decide), if_neg (by decide), if_neg (by decide), if_neg (by decide), if_neg (by decide), if_pos rfl]
        rcases p with e | e <;> rcases q with e2 | e2 <;> rw [e, e2] <;> unfold PBz <;> decide
      · have e := i32_of e (by decide) (by decide)
        subst e
        unfold op2
        rw [if_neg (by decide), if_neg (by decide), if_neg (by decide), if_neg (by decide), if_neg (by decide), if_neg (by decide), if_neg (by decide), if_neg (by decide), if_neg (by decide)]
        rcases p with e | e <;> rcases q with e2 | e2 <;> rw [e, e2] <;> unfold PBz <;> decide
    · rw [if_neg h2] at h; cases h
/-- the kinds of a step -/
theorem stpT_cases {k v : Int32} {ts m : List Bool} (h : stpT k v ts = some m) :
    (k.toInt < 23 ∧ 0 ≤ k.toInt ∧ k.toInt < 10 ∧ ts.length < 64 ∧ m = false :: ts) ∨ (k.toInt = 26 ∧ v ≠ 0 ∧ ∃ x r, ts = x :: r ∧ m = false :: r) ∨ (k.toInt = 30 ∧ ∃ x r, ts = x :: r ∧ m = x :: r) ∨ (23 ≤ k.toInt ∧ k.toInt ≠ 26 ∧ k.toInt ≠ 30 ∧ ∃ x y r, ts = x :: y :: r ∧ m = opT k x y :: r) := by
  unfold stpT at h
  by_cases h1 : k.toInt < 23
  · rw [if_pos h1] at h
    by_cases h2 : 0 ≤ k.toInt ∧ k.toInt < 10 ∧ ts.length < 64
    · rw [if_pos h2] at h
      exact Or.inl ⟨h1, h2.1, h2.2.1, h2.2.2, (Option.some.inj h).symm⟩
    · rw [if_neg h2] at h; cases h
  rw [if_neg h1] at h
  by_cases h2 : k.toInt = 26
  · rw [if_pos h2] at h
    cases ts with
    | nil => cases h
    | cons x r =>
      dsimp only at h
      by_cases h3 : v = 0
      · rw [if_pos h3] at h; cases h
      · rw [if_neg h3] at h
        exact Or.inr (Or.inl ⟨h2, h3, x, r, rfl, (Option.some.inj h).symm⟩)
  rw [if_neg h2] at h
  by_cases h3 : k.toInt = 30
  · rw [if_pos h3] at h
    cases ts with
    | nil => cases h
    | cons x r => exact Or.inr (Or.inr (Or.inl ⟨h3, x, r, rfl, (Option.some.inj h).symm⟩))
  rw [if_neg h3] at h
  cases ts with
  | nil => cases h
  | cons x r =>
    cases r with
    | nil => cases h
    | cons y r => exact Or.inr (Or.inr (Or.inr ⟨by omega, h2, h3, x, y, r, rfl, (Option.some.inj h).symm⟩))
theorem ev1_push {f : Nat → Int32} {k v : Int32} {st : List Int32} (h : k.toInt < 23) : ev1 f k v st = (if k = 0 then v else f k.toNatClampNeg) :: st := by
  unfold ev1; rw [if_pos h]
theorem ev1_part {f : Nat → Int32} {k v x : Int32} {r : List Int32} (h : k.toInt = 26) : ev1 f k v (x :: r) = (x / v) :: r := by
  unfold ev1; rw [if_neg (by omega), if_pos h]
theorem ev1_not {f : Nat → Int32} {k v x : Int32} {r : List Int32} (h : k.toInt = 30) : ev1 f k v (x :: r) = (ci 1 - x) :: r := by
  unfold ev1; rw [if_neg (by omega), if_neg (by omega), if_pos h]
theorem ev1_bin {f : Nat → Int32} {k v x y : Int32} {r : List Int32} (h1 : 23 ≤ k.toInt) (h2 : k.toInt ≠ 26) (h3 : k.toInt ≠ 30) : ev1 f k v (y :: x :: r) = op2 k x y :: r := by
  unfold ev1; rw [if_neg (by omega), if_neg h2, if_neg h3]
theorem ev1_ty {f : Nat → Int32} {k v : Int32} {ts m : List Bool} {st : List Int32} (h : stpT k v ts = some m) (ht : tyd ts st) : tyd m (ev1 f k v st) := by
  rcases stpT_cases h with ⟨h1, _, _, _, e⟩ | ⟨h1, _, x, r, e1, e⟩ | ⟨h1, x, r, e1, e⟩ | ⟨h1, h2, h3, x, y, r, e1, e⟩
  · subst e
    rw [ev1_push h1]
    exact ⟨fun q => (by cases q), ht⟩
  · subst e; subst e1
    obtain ⟨a, q, e2, _, t2⟩ := tyd_1 ht
    subst e2
    rw [ev1_part h1]
    exact ⟨fun q => (by cases q), t2⟩
  · subst e; subst e1
    obtain ⟨a, q, e2, t1, t2⟩ := tyd_1 ht
    subst e2
    rw [ev1_not h1]
    refine ⟨fun q => ?_, t2⟩
    rcases t1 q with e | e
    · rw [e]; exact Or.inr (by decide)
    · rw [e]; exact Or.inl (by decide)
  · subst e; subst e1
    obtain ⟨a, q, e2, t1, t2⟩ := tyd_1 ht
    subst e2
    obtain ⟨a2, q2, e2, t3, t4⟩ := tyd_1 t2
    subst e2
    rw [ev1_bin h1 h2 h3]
    exact ⟨fun q => op2_ty h1 t1 t3 q, t4⟩
/-- the pile lies in a row -/
def SKr (D : Nat → Int32) : List Int32 → Prop
  | [] => True
  | x :: r => D r.length = x ∧ SKr D r
theorem SKr_set {D D' : Nat → Int32} : ∀ {st : List Int32}, SKr D st → (∀ i, i < st.length → D' i = D i) → SKr D' st := by
  intro st
  induction st with
  | nil => intro _ _; trivial
  | cons x r ih =>
    intro h k
    exact ⟨(k r.length (by simp)).trans h.1, ih h.2 (fun i hi => k i (by simp; omega))⟩
theorem SKr_mu {D : Nat → Nat → Int32} {j : Nat} {x : Int32} {r : List Int32} (h : SKr (D j) r) : SKr (mu D j r.length x j) (x :: r) :=
  ⟨mu_same, SKr_set h (fun i hi => mu_cell (Or.inr (by omega)))⟩
theorem Rt_len {c : Nat → Int32} : ∀ (n k : Nat) (h h' : List Bool), Rt c k n h h' → h.length ≤ 64 → h'.length ≤ 64 := by
  intro n
  induction n with
  | zero => intro k h h' q hl; cases (show h = h' from q); exact hl
  | succ n ih =>
    intro k h h' q hl
    obtain ⟨m, q1, q2⟩ := q
    refine ih (k + 1) m h' q2 ?_
    rcases stpT_cases q1 with ⟨_, _, _, h4, e⟩ | ⟨_, _, x, r, e1, e⟩ | ⟨_, x, r, e1, e⟩ | ⟨_, _, _, x, y, r, e1, e⟩
    · subst e; simp; omega
    · subst e; subst e1; simpa using hl
    · subst e; subst e1; simpa using hl
    · subst e; subst e1; simp at hl ⊢; omega
theorem Rt_ty {c f : Nat → Int32} : ∀ (n k : Nat) (ts ts' : List Bool) (st : List Int32), Rt c k n ts ts' → tyd ts st → tyd ts' (evs c f k n st) := by
  intro n
  induction n with
  | zero => intro k ts ts' st q ht; cases (show ts = ts' from q); exact ht
  | succ n ih =>
    intro k ts ts' st q ht
    obtain ⟨m, q1, q2⟩ := q
    exact ih (k + 1) m ts' _ q2 (ev1_ty q1 ht)
theorem CT_bw {x1 x3 x4 x5 : Int32} {b : mG} : F_X12_comesTo_L6 x1 x3 x4 x5 b = bw (F_X12_comesTo_B6 x1 x3 x4 x5 b) (fun v => F_X12_comesTo_L6 v.1 v.2.1 v.2.2.1 v.2.2.2.1 v.2.2.2.2) := whl_bw _ _
theorem cn_d1 {n : Nat} (h : n + 1 < 2147483648) : cn (n + 1) - ci 1 = cn n := (cn_sub (a := n + 1) (b := 1) (by omega) (by omega)).trans (by rw [Nat.add_sub_cancel])
theorem cn_d2 {n : Nat} (h : n + 1 < 2147483648) : cn (n + 1) + ci (-1) = cn n := Int32.toInt_inj.mp (by
  rw [t_dn (by rw [t_cn (by omega)]; omega), t_cn (by omega), t_cn (by omega)]; omega)
theorem nle_t {a : Int32} {c : Int32} {m : Int} (hc : c.toInt = m) : (c ≤ a) ↔ m ≤ a.toInt := by rw [Int32.le_iff_toInt_le, hc]
/-- the reference's reckoning -/
theorem V_comesTo {f : Nat → Int32} {z : mG} (hf : ∀ j, 1 ≤ j → j < 10 → z.1 97 j = f j) : ∀ (n k : Nat) (st : List Int32) (ts ts' : List Bool) (b : mG), k + n ≤ 400 → Rt (fun j => z.1 89 (1050 + j)) k n ts ts' → tyd ts st → SKr (b.1 96) st → ts.length ≤ 64 → (∀ j, j ≠ 96 → b.1 j = z.1 j) → pk (F_X12_comesTo_L6 (ci 0) (cn (k + n)) (cn st.length) (cn k) b) (fun τ => τ.1 = τ.2.1 96 0 ∧ SKr (τ.2.1 96) (evs (fun j => z.1 89 (1050 + j)) f k n st) ∧ ∀ j, j ≠ 96 → τ.2.1 j = z.1 j) := by
  intro n
  induction n with
  | zero =>
    intro k st ts ts' b hk hR ht hS hl hz
    rw [CT_bw]
    refine pk_bw ?_
    unfold F_X12_comesTo_B6
    rw [if_pos ((cn_le (by omega) (by omega)).mpr (by omega))]
    exact pk_some ⟨rfl, hS, hz⟩
  | succ n ih =>
    intro k st ts ts' b hk hR ht hS hl hz
    obtain ⟨m, hm, hR⟩ := hR
    dsimp only at hm
    have hlen := tyd_len ht
    have eI : ((c16 1050) + ((c16 820) * (ci 0))) + ((ci 2) * cn k) = cn (1050 + 2 * k) := by
      rw [show (c16 1050) + ((c16 820) * (ci 0)) = cn 1050 by decide, show (ci 2) * cn k = cn (2 * k) from cn_mul (a := 2) (by omega) (by omega) (by omega), cn_add (by omega)]
    rw [CT_bw]
    refine pk_bw ?_
    unfold F_X12_comesTo_B6
    rw [if_neg (fun q => absurd ((cn_le (by omega) (by omega)).mp q) (by omega)), eI, cnu (a := 1050 + 2 * k) (by omega), cn_nat (n := 1050 + 2 * k) (by omega), cn_nat (n := 1050 + 2 * k + 1) (by omega)]
    dsimp only
    refine pk_nn (pk_nn ?_)
    rw [hz 89 (by decide), show 1050 + 2 * k + 1 = 1050 + (2 * k + 1) by omega]
    generalize hK : z.1 89 (1050 + 2 * k) = K at *
    generalize hV : z.1 89 (1050 + (2 * k + 1)) = V at *
    have go : ∀ (b2 : mG) (x4 : Int32), x4 = cn (ev1 f K V st).length → SKr (b2.1 96) (ev1 f K V st) → (∀ j, j ≠ 96 → b2.1 j = b.1 j) → pk (F_X12_comesTo_L6 (ci 0) (cn (k + (n + 1))) x4 (cn k + ci 1) b2) (fun τ => τ.1 = τ.2.1 96 0 ∧ SKr (τ.2.1 96) (evs (fun j => z.1 89 (1050 + j)) f k (n + 1) st) ∧ ∀ j, j ≠ 96 → τ.2.1 j = z.1 j) := by
      intro b2 x4 e4 hS2 hb2
      have q := ih (k + 1) (ev1 f K V st) m ts' b2 (by omega) hR (ev1_ty hm ht) hS2 (Rt_len 1 0 ts m (c := fun j => if j = 0 then K else V) ⟨m, hm, rfl⟩ hl) (fun j hj => (hb2 j hj).trans (hz j hj))
      rw [show k + 1 + n = k + (n + 1) by omega, ← e4, ← cnu (a := k) (by omega)] at q
      have e : evs (fun j => z.1 89 (1050 + j)) f k (n + 1) st = evs (fun j => z.1 89 (1050 + j)) f (k + 1) n (ev1 f K V st) := by
        show evs (fun j => z.1 89 (1050 + j)) f (k + 1) n (ev1 f (z.1 89 (1050 + 2 * k)) (z.1 89 (1050 + (2 * k + 1))) st) = _
        rw [hK, hV]
      rw [e]
      exact q
    unfold F_X12_comesTo_180 F_X12_comesTo_86 F_X12_comesTo_180
    rcases stpT_cases hm with ⟨h1, h2, h3, h4, _⟩ | ⟨h1, h2, x, r, e1, _⟩ | ⟨h1, x, r, e1, _⟩ | ⟨h1, h2, h3, x, y, r, e1, _⟩
    · rw [if_neg (fun q => absurd ((nle_t (by decide : (c8 23).toInt = 23)).mp q) (by omega))]
      have hsl : st.length < 64 := by omega
      have ep : ∀ v, v = (if K = 0 then V else f K.toNatClampNeg) → pk (some (Sum.inl ((ci 0), (cn (k + (n + 1))), (cn st.length + ci 1), (cn k + ci 1), ((mu b.1 96 st.length v, b.2) : mG))) : Option ((Int32 × Int32 × Int32 × Int32 × mG) ⊕ (Int32 × mG))) (se (fun v => pk (F_X12_comesTo_L6 v.1 v.2.1 v.2.2.1 v.2.2.2.1 v.2.2.2.2) (fun τ => τ.1 = τ.2.1 96 0 ∧ SKr (τ.2.1 96) (evs (fun j => z.1 89 (1050 + j)) f k (n + 1) st) ∧ ∀ j, j ≠ 96 → τ.2.1 j = z.1 j)) (fun τ => τ.1 = τ.2.1 96 0 ∧ SKr (τ.2.1 96) (evs (fun j => z.1 89 (1050 + j)) f k (n + 1) st) ∧ ∀ j, j ≠ 96 → τ.2.1 j = z.1 j)) := by
        intro v hv
        refine pk_some (go _ _ ?_ ?_ (fun j hj => mu_row hj))
        · rw [ev1_push h1, cnu (by omega)]; rfl
        · rw [ev1_push h1, ← hv]
          exact SKr_mu hS
      by_cases hk0 : K = 0
      · rw [if_pos hk0, cn_nat (n := st.length) (by omega)]
        exact pk_nn (ep V (by rw [if_pos hk0]))
      · rw [if_neg hk0, cn_nat (n := st.length) (by omega)]
        refine pk_nn (pk_nn (ep _ ?_))
        rw [if_neg hk0, hz 97 (by decide)]
        have hne : K.toInt ≠ 0 := fun q => hk0 (Int32.toInt_inj.mp (by rw [q, t_zero]))
        exact hf _ (by rw [t_nat]; omega) (by rw [t_nat]; omega)
    · rw [if_pos ((nle_t (by decide : (c8 23).toInt = 23)).mpr (by omega)), if_pos ((i32_of h1 (by decide) (by decide)).trans (show ci 26 = c8 26 by decide))]
      subst e1
      obtain ⟨a, q, e2, _, _⟩ := tyd_1 ht
      subst e2
      have hq : q.length < 64 := by simp at hlen hl; omega
      rw [show cn (a :: q).length - ci 1 = cn q.length from cn_d1 (n := q.length) (by omega), cn_nat (n := q.length) (by omega), if_neg h2]
      refine pk_nn (pk_nn (pk_some (go _ _ ?_ ?_ (fun j hj => mu_row hj))))
      · rw [ev1_part h1]; rfl
      · rw [ev1_part h1, hS.1]
        exact SKr_mu hS.2
    · rw [if_pos ((nle_t (by decide : (c8 23).toInt = 23)).mpr (by omega)), if_neg (fun e => absurd (congrArg Int32.toInt e) (by rw [h1]; decide)), if_pos ((i32_of h1 (by decide) (by decide)).trans (show ci 30 = c8 30 by decide))]
      subst e1
      obtain ⟨a, q, e2, _, _⟩ := tyd_1 ht
      subst e2
      have hq : q.length < 64 := by simp at hlen hl; omega
      rw [show cn (a :: q).length - ci 1 = cn q.length from cn_d1 (n := q.length) (by omega), cn_nat (n := q.length) (by omega)]
      refine pk_nn (pk_nn (pk_some (go _ _ ?_ ?_ (fun j hj => mu_row hj))))
      · rw [ev1_not h1]; rfl
      · rw [ev1_not h1, hS.1]
        exact SKr_mu hS.2
    · rw [if_pos ((nle_t (by decide : (c8 23).toInt = 23)).mpr (by omega)), if_neg (fun e => absurd (congrArg Int32.toInt e) (by rw [show (c8 26).toInt = 26 by decide]; exact h2)), if_neg (fun e => absurd (congrArg Int32.toInt e) (by rw [show (c8 30).toInt = 30 by decide]; exact h3))]
      subst e1
      obtain ⟨a, q, e2, _, t2⟩ := tyd_1 ht
      subst e2
      obtain ⟨a2, q2, e2, _, _⟩ := tyd_1 t2
      subst e2
      have hq : q2.length < 63 := by simp at hlen hl; omega
      rw [show cn (a :: a2 :: q2).length + ci (-1) = cn (q2.length + 1) from cn_d2 (n := q2.length + 1) (by omega), show cn (q2.length + 1) - ci 1 = cn q2.length from cn_d1 (by omega), cn_nat (n := q2.length) (by omega), cn_nat (n := q2.length + 1) (by omega)]
      refine pk_nn (pk_nn ?_)
      rw [V_both, b1_some]
      refine pk_nn (pk_some (go _ _ ?_ ?_ (fun j hj => mu_row hj)))
      · rw [ev1_bin h1 h2 h3]
        show cn (q2.length + 1) = cn (q2.length + 1)
        rfl
      · rw [ev1_bin h1 h2 h3, show b.1 96 q2.length = a2 from hS.2.1, show b.1 96 (q2.length + 1) = a from hS.1]
        exact SKr_mu hS.2.2
end
