/-! RUNS OF THE SMALL MACHINE AS A RELATION, AND ITS RULES -/
theorem m_run_succ (tab : List mM) (N : Nat) (xs : Nat → Int32) : ∀ (n d : Nat) (e : mM) (pc : Nat) (ls : List (Option Value)) (st : List Value) (h : mH) (r : Option Value × mH), m_run tab N xs n d e pc ls st h = some r → m_run tab N xs (n + 1) d e pc ls st h = some r := by
  intro n
  induction n with
  | zero => intro d e pc ls st h r hr; cases hr
  | succ n ih =>
    intro d e pc ls st h r hr
    unfold m_run at hr ⊢
    split at hr
    · cases hr
    · next ins aux hat =>
      split at hr
      · exact hr
      · split at hr
        · next y k hcall =>
          split at hr
          · cases hr
          · next d' =>
            split at hr
            · next hc =>
              rw [if_pos hc]
              split at hr
              · next v h1 hrun =>
                rw [ih _ _ _ _ _ _ _ hrun]
                exact ih _ _ _ _ _ _ _ hr
              · cases hr
            · cases hr
        · split at hr
          · next pc1 ls1 st1 h1 hop => exact ih _ _ _ _ _ _ _ hr
          · cases hr
theorem m_run_le {tab : List mM} {N : Nat} {xs : Nat → Int32} {n n' d : Nat} {e : mM} {pc : Nat} {ls : List (Option Value)} {st : List Value} {h : mH} {r : Option Value × mH} (hr : m_run tab N xs n d e pc ls st h = some r) (hn : n ≤ n') : m_run tab N xs n' d e pc ls st h = some r := by
  induction hn with
  | refl => exact hr
  | step _ ih => exact m_run_succ _ _ _ _ _ _ _ _ _ _ _ ih
def Rn (N : Nat) (xs : Nat → Int32) (d : Nat) (e : mM) (pc : Nat) (ls : List (Option Value)) (st : List Value) (h : mH) (r : Option Value × mH) : Prop := ∃ n, m_run m_tab N xs n d e pc ls st h = some r
/-- the pcs of a row of instructions grow -/
def m_srt : List mI → Bool
  | a :: b :: r => decide (a.1 < b.1) && m_srt (b :: r)
  | _ => true
theorem m_srt_lt : ∀ {cd : List mI} {a : mI}, m_srt (a :: cd) = true → ∀ q ∈ cd, a.1 < q.1 := by
  intro cd
  induction cd with
  | nil => intro a _ q hq; cases hq
  | cons b r ih =>
    intro a h q hq
    simp only [m_srt, Bool.and_eq_true, decide_eq_true_eq] at h
    rcases List.mem_cons.mp hq with rfl | hq
    · exact h.1
    · exact Nat.lt_trans h.1 (ih h.2 q hq)
theorem m_srt_at : ∀ {cd : List mI} {q : Nat} {ins : Instr} {aux : List Int}, m_srt cd = true → (q, ins, aux) ∈ cd → m_at cd q = some (ins, aux) := by
  intro cd
  induction cd with
  | nil => intro q ins aux _ hq; cases hq
  | cons a r ih =>
    intro q ins aux h hq
    obtain ⟨p, i, x⟩ := a
    rcases List.mem_cons.mp hq with e | hq
    · cases e; simp [m_at]
    · have hl := m_srt_lt h _ hq
      simp only at hl
      have hr : m_srt r = true := by
        cases r with
        | nil => rfl
        | cons b r => simp only [m_srt, Bool.and_eq_true] at h; exact h.2
      simp only [m_at, if_neg (show ¬ p = q by omega)]
      exact ih hr hq
/-- k instructions, one behind the other in the row, none of them a call or a return -/
def m_sq (N : Nat) (xs : Nat → Int32) : Nat → List mI → mF → Option mF
  | 0, _, f => some f
  | _ + 1, [], _ => none
  | k + 1, (q, ins, aux) :: r, f => if q = f.1 then match m_isRet ins with
      | true => none
      | false => match m_call m_tab ins aux with
        | some _ => none
        | none => match m_op N xs ins aux f.1 f.2.1 f.2.2.1 f.2.2.2 with
          | some f' => m_sq N xs k r f'
          | none => none
    else none
section RN
variable {N : Nat} {xs : Nat → Int32} {d pc pc' : Nat} {e y : mM} {ls ls' : List (Option Value)} {st st' : List Value} {h h1 : mH} {r : Option Value × mH} {ins : Instr} {aux : List Int}
theorem Rn_op (hat : m_at e.2.2.2.2.2.2.2 pc = some (ins, aux)) (hr : m_isRet ins = false) (hc : m_call m_tab ins aux = none) (hop : m_op N xs ins aux pc ls st h = some (pc', ls', st', h1)) (k : Rn N xs d e pc' ls' st' h1 r) : Rn N xs d e pc ls st h r := by
  obtain ⟨n, hn⟩ := k
  refine ⟨n + 1, ?_⟩
  unfold m_run
  simp only [hat, hr, hc, hop]
  exact hn
theorem Rn_sq_aux (hs : m_srt e.2.2.2.2.2.2.2 = true) : ∀ (k : Nat) (l : List mI) (f f' : mF), (∀ q ∈ l, q ∈ e.2.2.2.2.2.2.2) → m_sq N xs k l f = some f' → Rn N xs d e f'.1 f'.2.1 f'.2.2.1 f'.2.2.2 r → Rn N xs d e f.1 f.2.1 f.2.2.1 f.2.2.2 r := by
  intro k
  induction k with
  | zero => intro l f f' _ hq hr; simp only [m_sq, Option.some.injEq] at hq; subst hq; exact hr
  | succ k ih =>
    intro l f f' hl hq hr
    match l, hl, hq with
    | [], _, hq => cases hq
    | (q, ins, aux) :: rest, hl, hq =>
      unfold m_sq at hq
      split at hq
      · next e1 =>
        split at hq
        · cases hq
        · next e2 =>
          split at hq
          · cases hq
          · next e3 =>
            split at hq
            · next f1 e4 =>
              have hat := m_srt_at hs (hl _ List.mem_cons_self)
              rw [e1] at hat
              exact Rn_op (pc' := f1.1) (ls' := f1.2.1) (st' := f1.2.2.1) (h1 := f1.2.2.2) hat e2 e3 e4 (ih rest f1 f' (fun q hq => hl q (List.mem_cons_of_mem _ hq)) hq hr)
            · cases hq
      · cases hq
theorem Rn_sq (hs : m_srt e.2.2.2.2.2.2.2 = true) (p k : Nat) (hq : m_sq N xs k (e.2.2.2.2.2.2.2.drop p) (pc, ls, st, h) = some (pc', ls', st', h1)) (kk : Rn N xs d e pc' ls' st' h1 r) : Rn N xs d e pc ls st h r :=
  Rn_sq_aux hs k _ (pc, ls, st, h) (pc', ls', st', h1) (fun q hq => List.mem_of_mem_drop hq) hq kk
theorem Rn_ret {v : Option Value} (hs : m_srt e.2.2.2.2.2.2.2 = true) (p : Nat) (hp : (e.2.2.2.2.2.2.2)[p]? = some (pc, ins, aux)) (hi : m_isRet ins = true) (hr : m_ret e.2.2.2.2.1 ins st = some v) : Rn N xs d e pc ls st h (v, h) := by
  refine ⟨1, ?_⟩
  have hat := m_srt_at hs (List.mem_of_getElem? hp)
  unfold m_run
  simp only [hat, hi, hr]
theorem Rn_call {k : Nat} {v : Option Value} (hs : m_srt e.2.2.2.2.2.2.2 = true) (p : Nat) (hp : (e.2.2.2.2.2.2.2)[p]? = some (pc, ins, aux)) (hi : m_isRet ins = false) (hc : m_call m_tab ins aux = some (y, k)) (hcond : k ≤ st.length ∧ ((st.drop k).map fun v => v.category).sum ≤ 8 ∧ m_recv h y.1 y.2.2.2.2.2.1 (st.take k).reverse = true ∧ (m_en (st.take k).reverse).length ≤ y.2.2.2.1)
    (hy : Rn N xs d y 0 (m_en (st.take k).reverse ++ List.replicate (y.2.2.2.1 - (m_en (st.take k).reverse).length) none) [] h (v, h1)) (kk : Rn N xs (d + 1) e (pc + 3) ls (v.toList ++ st.drop k) h1 r) : Rn N xs (d + 1) e pc ls st h r := by
  obtain ⟨n1, h1'⟩ := hy
  obtain ⟨n2, h2'⟩ := kk
  refine ⟨max n1 n2 + 1, ?_⟩
  have hat := m_srt_at hs (List.mem_of_getElem? hp)
  unfold m_run
  simp only [hat, hi, hc, if_pos hcond, m_run_le h1' (Nat.le_max_left n1 n2)]
  exact m_run_le h2' (Nat.le_max_right n1 n2)
theorem Rn_if {c : Prop} [Decidable c] {a b : Nat} (ht : c → Rn N xs d e a ls st h r) (hf : ¬ c → Rn N xs d e b ls st h r) : Rn N xs d e (if c then a else b) ls st h r := by
  by_cases hc : c
  · rw [if_pos hc]; exact ht hc
  · rw [if_neg hc]; exact hf hc
end RN
/-- less known of the locals is enough -/
def m_nd (l : List (Option Value)) : Prop := ∀ (i : Nat) (x : UInt64), l[i]? ≠ some (some (.double x))
def m_le : List (Option Value) → List (Option Value) → Prop
  | [], [] => True
  | none :: a, _ :: b => m_le a b
  | some v :: a, o :: b => o = some v ∧ m_le a b
  | _, _ => False
theorem m_le_len : ∀ {a b : List (Option Value)}, m_le a b → a.length = b.length := by
  intro a
  induction a with
  | nil => intro b h; cases b with
    | nil => rfl
    | cons x b => cases h
  | cons o a ih =>
    intro b h
    cases b with
    | nil => cases o <;> cases h
    | cons x b =>
      cases o with
      | none => simp only [m_le] at h; simp [ih h]
      | some v => simp only [m_le] at h; simp [ih h.2]
theorem m_le_get : ∀ {a b : List (Option Value)}, m_le a b → ∀ (i : Nat) (v : Value), a[i]? = some (some v) → b[i]? = some (some v) := by
  intro a
  induction a with
  | nil => intro b h i v hi; simp at hi
  | cons o a ih =>
    intro b h i v hi
    cases b with
    | nil => cases o <;> cases h
    | cons x b =>
      cases o with
      | none =>
        simp only [m_le] at h
        cases i with
        | zero => simp at hi
        | succ i => simpa using ih h i v (by simpa using hi)
      | some w =>
        simp only [m_le] at h
        cases i with
        | zero => simp at hi; subst hi; simp [h.1]
        | succ i => simpa using ih h.2 i v (by simpa using hi)
theorem m_le_set : ∀ {a b : List (Option Value)}, m_le a b → ∀ (i : Nat) (o : Option Value), m_le (a.set i o) (b.set i o) := by
  intro a
  induction a with
  | nil => intro b h i o; cases b with
    | nil => simp [m_le]
    | cons x b => cases h
  | cons q a ih =>
    intro b h i o
    cases b with
    | nil => cases q <;> cases h
    | cons x b =>
      cases i with
      | zero =>
        cases q with
        | none => simp only [m_le] at h; cases o <;> simp [m_le, h]
        | some w => simp only [m_le] at h; cases o <;> simp [m_le, h.2]
      | succ i =>
        cases q with
        | none => simp only [m_le] at h; simpa [m_le] using ih h i o
        | some w => simp only [m_le] at h; simpa [m_le] using ⟨h.1, ih h.2 i o⟩
theorem m_le_setr : ∀ {a b : List (Option Value)}, m_le a b → ∀ (i : Nat) (o : Option Value), (∀ v, a[i]? ≠ some (some v)) → m_le a (b.set i o) := by
  intro a
  induction a with
  | nil => intro b h i o _; cases b with
    | nil => simp [m_le]
    | cons x b => cases h
  | cons q a ih =>
    intro b h i o hn
    cases b with
    | nil => cases q <;> cases h
    | cons x b =>
      cases i with
      | zero =>
        cases q with
        | none => simp only [m_le] at h; simpa [m_le] using h
        | some w => exact absurd (by simp) (hn w)
      | succ i =>
        have hn' : ∀ v, a[i]? ≠ some (some v) := fun v hv => hn v (by simpa using hv)
        cases q with
        | none => simp only [m_le] at h; simpa [m_le] using ih h i o hn'
        | some w => simp only [m_le] at h; simpa [m_le] using ⟨h.1, ih h.2 i o hn'⟩
theorem m_nd_set {l : List (Option Value)} (h : m_nd l) (i : Nat) {o : Option Value} (ho : ∀ x, o ≠ some (.double x)) : m_nd (l.set i o) := by
  intro j x hj
  by_cases hji : i = j
  · subst hji
    by_cases hl : i < l.length
    · rw [List.getElem?_set_self hl] at hj
      simp only [Option.some.injEq] at hj
      exact ho x hj
    · rw [List.getElem?_eq_none (by simp; omega)] at hj; cases hj
  · rw [List.getElem?_set_ne hji] at hj; exact h j x hj
theorem m_s1_le {a b a' : List (Option Value)} {i : Nat} {v : Value} (hv : ∀ x, v ≠ .double x) (h : m_le a b) (hb : m_nd b) (hs : m_s1 a i v = some a') : ∃ b', m_s1 b i v = some b' ∧ m_le a' b' ∧ m_nd b' := by
  unfold m_s1 at hs ⊢
  have hlen := m_le_len h
  have hn1 : ∀ {n : Nat}, m_nd (b.set n (some v)) := fun {n} => m_nd_set hb n (fun x q => hv x (Option.some.inj q))
  have hn2 : ∀ {n k : Nat}, m_nd ((b.set n (some v)).set k none) := fun {n k} => m_nd_set hn1 k (fun x q => by cases q)
  split at hs
  · next hi =>
    rw [if_pos (by omega)]
    cases i with
    | zero => cases hs; exact ⟨_, rfl, m_le_set h 0 _, hn1⟩
    | succ k =>
      simp only at hs ⊢
      split at hs
      · next x hk =>
        cases hs
        rw [m_le_get h k _ hk]
        exact ⟨_, rfl, m_le_set (m_le_set h _ _) _ _, hn2⟩
      · cases hs
      · next n1 n2 =>
        cases hs
        split
        · next x hk =>
          refine ⟨_, rfl, m_le_setr (m_le_set h _ _) _ _ (fun w hw => ?_), hn2⟩
          rw [List.getElem?_set_ne (by omega)] at hw
          have := m_le_get h k w hw
          rw [hk] at this
          cases this
          exact n1 x hw
        · next x hk => exact absurd hk (hb k x)
        · exact ⟨_, rfl, m_le_set h _ _, hn1⟩
  · cases hs
theorem m_s2_le {a b a' : List (Option Value)} {i : Nat} {v : Value} (hv : ∀ x, v ≠ .double x) (h : m_le a b) (hb : m_nd b) (hs : m_s2 a i v = some a') : ∃ b', m_s2 b i v = some b' ∧ m_le a' b' ∧ m_nd b' := by
  unfold m_s2 at hs ⊢
  have hlen := m_le_len h
  have hn1 : ∀ {n : Nat}, m_nd (b.set n (some v)) := fun {n} => m_nd_set hb n (fun x q => hv x (Option.some.inj q))
  have hn2 : ∀ {n k : Nat}, m_nd ((b.set n (some v)).set k none) := fun {n k} => m_nd_set hn1 k (fun x q => by cases q)
  have hn3 : ∀ {n k j : Nat}, m_nd (((b.set n (some v)).set k none).set j none) := fun {n k j} => m_nd_set hn2 j (fun x q => by cases q)
  split at hs
  · next hi =>
    rw [if_pos (by omega)]
    cases i with
    | zero => cases hs; exact ⟨_, rfl, m_le_set (m_le_set h 0 _) _ _, hn2⟩
    | succ k =>
      simp only at hs ⊢
      split at hs
      · next x hk =>
        cases hs
        rw [m_le_get h k _ hk]
        exact ⟨_, rfl, m_le_set (m_le_set (m_le_set h _ _) _ _) _ _, hn3⟩
      · cases hs
      · next n1 n2 =>
        cases hs
        split
        · next x hk =>
          refine ⟨_, rfl, m_le_setr (m_le_set (m_le_set h _ _) _ _) _ _ (fun w hw => ?_), hn3⟩
          rw [List.getElem?_set_ne (by omega), List.getElem?_set_ne (by omega)] at hw
          have := m_le_get h k w hw
          rw [hk] at this
          cases this
          exact n1 x hw
        · next x hk => exact absurd hk (hb k x)
        · exact ⟨_, rfl, m_le_set (m_le_set h _ _) _ _, hn2⟩
  · cases hs
theorem m_li_le {a b : List (Option Value)} {i : Nat} {x : Int32} (h : m_le a b) (hs : m_li a i = some x) : m_li b i = some x := by
  unfold m_li at hs ⊢
  split at hs
  · next y hy => rw [m_le_get h i _ hy]; exact hs
  · cases hs
theorem m_ll_le {a b : List (Option Value)} {i : Nat} {x : Int64} (h : m_le a b) (hs : m_ll a i = some x) : m_ll b i = some x := by
  unfold m_ll at hs ⊢
  split at hs
  · next y hy => rw [m_le_get h i _ hy]; exact hs
  · cases hs
theorem m_la_le {a b : List (Option Value)} {i : Nat} {x : Value} (h : m_le a b) (hs : m_la a i = some x) : m_la b i = some x := by
  unfold m_la at hs ⊢
  split at hs
  · next y hy => rw [m_le_get h i _ hy]; exact hs
  · next hy => rw [m_le_get h i _ hy]; exact hs
  · cases hs
set_option maxHeartbeats 1000000 in
theorem m_op1_le {ins : Instr} {aux : List Int} {pc pc' : Nat} {a b a' : List (Option Value)} {st st' : List Value} {h h' : mH} (hl : m_le a b) (hb : m_nd b) (ho : m_op1 ins aux pc a st h = some (pc', a', st', h')) : ∃ b', m_op1 ins aux pc b st h = some (pc', b', st', h') ∧ m_le a' b' ∧ m_nd b' := by
  cases ins <;> try (simp [m_op1] at ho; done)
  all_goals (simp only [m_op1] at ho ⊢)
  all_goals repeat' (split at ho)
  all_goals (try (cases ho; done))
  all_goals (try (next hq => cases ho; rw [m_li_le hl hq]; exact ⟨_, rfl, hl, hb⟩))
  all_goals (try (next hq => cases ho; rw [m_ll_le hl hq]; exact ⟨_, rfl, hl, hb⟩))
  all_goals (try (next hq => cases ho; rw [m_la_le hl hq]; exact ⟨_, rfl, hl, hb⟩))
  all_goals (try (next hq => cases ho; obtain ⟨b', e1, e2, e3⟩ := m_s1_le (by intro x q; cases q) hl hb hq; rw [e1]; exact ⟨_, rfl, e2, e3⟩))
  all_goals (try (next hq => cases ho; obtain ⟨b', e1, e2, e3⟩ := m_s2_le (by intro x q; cases q) hl hb hq; rw [e1]; exact ⟨_, rfl, e2, e3⟩))
  all_goals (try (next hq0 _ _ hq => cases ho; obtain ⟨b', e1, e2, e3⟩ := m_s1_le (by intro x q; cases q) hl hb hq; rw [m_li_le hl hq0]; simp only; rw [e1]; exact ⟨_, rfl, e2, e3⟩))
  all_goals first
    | (cases ho; exact ⟨_, rfl, hl, hb⟩)
    | (simp only [Option.some.injEq, Prod.mk.injEq] at ho; obtain ⟨rfl, rfl, rfl, rfl⟩ := ho; exact ⟨_, rfl, hl, hb⟩)
    | (simp_all; done)
set_option maxHeartbeats 1000000 in
theorem m_op2_fr {ins : Instr} {pc : Nat} (a b : List (Option Value)) {st : List Value} {h : mH} : m_op2 ins pc b st h = (m_op2 ins pc a st h).map (fun f => (f.1, b, f.2.2)) := by
  unfold m_op2
  split
  all_goals first
    | rfl
    | (repeat' (first | rfl | split))
theorem m_math_fr {aux : List Int} {pc : Nat} (a b : List (Option Value)) {st : List Value} {h : mH} : m_math aux pc b st h = (m_math aux pc a st h).map (fun f => (f.1, b, f.2.2)) := by
  unfold m_math
  split
  · next pl q x r => by_cases hc : (r.map fun v => v.category).sum ≤ 7 <;> simp only [hc, if_true, if_false] <;> rfl
  · next pl q y x r => by_cases hc : (r.map fun v => v.category).sum ≤ 7 <;> simp only [hc, if_true, if_false] <;> rfl
  · next pl q y x r => by_cases hc : (r.map fun v => v.category).sum ≤ 7 <;> simp only [hc, if_true, if_false] <;> rfl
  · next pl q y x r => by_cases hc : (r.map fun v => v.category).sum ≤ 7 <;> simp only [hc, if_true, if_false] <;> rfl
  · rfl
set_option maxHeartbeats 1000000 in
theorem m_op3_fr {N : Nat} {xs : Nat → Int32} {ins : Instr} {aux : List Int} {pc : Nat} (a b : List (Option Value)) {st : List Value} {h : mH} : m_op3 N xs ins aux pc b st h = (m_op3 N xs ins aux pc a st h).map (fun f => (f.1, b, f.2.2)) := by
  unfold m_op3
  split
  all_goals first
    | rfl
    | exact m_math_fr a b
    | (repeat' (first | rfl | split))
theorem m_fr_le {f : List (Option Value) → Option mF} (hf : ∀ a b, f b = (f a).map (fun f => (f.1, b, f.2.2))) {a b a' : List (Option Value)} {pc' : Nat} {st' : List Value} {h' : mH} (ho : f a = some (pc', a', st', h')) : a' = a ∧ f b = some (pc', b, st', h') := by
  have h1 := hf a a
  rw [ho] at h1
  have h2 := hf a b
  rw [ho] at h2
  refine ⟨?_, h2⟩
  simp only [Option.map_some, Option.some.injEq, Prod.mk.injEq, true_and, and_true] at h1
  exact h1
theorem m_op2_le {ins : Instr} {pc pc' : Nat} {a b a' : List (Option Value)} {st st' : List Value} {h h' : mH} (ho : m_op2 ins pc a st h = some (pc', a', st', h')) : a' = a ∧ m_op2 ins pc b st h = some (pc', b, st', h') :=
  m_fr_le (f := fun l => m_op2 ins pc l st h) (fun a b => m_op2_fr a b) ho
theorem m_op3_le {N : Nat} {xs : Nat → Int32} {ins : Instr} {aux : List Int} {pc pc' : Nat} {a b a' : List (Option Value)} {st st' : List Value} {h h' : mH} (ho : m_op3 N xs ins aux pc a st h = some (pc', a', st', h')) : a' = a ∧ m_op3 N xs ins aux pc b st h = some (pc', b, st', h') :=
  m_fr_le (f := fun l => m_op3 N xs ins aux pc l st h) (fun a b => m_op3_fr a b) ho
set_option maxHeartbeats 1000000 in
theorem m_op21 {ins : Instr} {aux : List Int} {pc : Nat} {a b : List (Option Value)} {st : List Value} {h : mH} {f : mF} (ho : m_op2 ins pc a st h = some f) : m_op1 ins aux pc b st h = none := by
  cases ins <;> first
    | rfl
    | (cases ho; done)
    | (simp [m_op2] at ho; done)
set_option maxHeartbeats 1000000 in
theorem m_op31 {N : Nat} {xs : Nat → Int32} {ins : Instr} {aux : List Int} {pc : Nat} {a b : List (Option Value)} {st : List Value} {h : mH} {f : mF} (ho : m_op3 N xs ins aux pc a st h = some f) : m_op1 ins aux pc b st h = none := by
  cases ins <;> first
    | rfl
    | (cases ho; done)
    | (simp [m_op3] at ho; done)
theorem m_op_le {N : Nat} {xs : Nat → Int32} {ins : Instr} {aux : List Int} {pc pc' : Nat} {a b a' : List (Option Value)} {st st' : List Value} {h h' : mH} (hl : m_le a b) (hb : m_nd b) (ho : m_op N xs ins aux pc a st h = some (pc', a', st', h')) : ∃ b', m_op N xs ins aux pc b st h = some (pc', b', st', h') ∧ m_le a' b' ∧ m_nd b' := by
  unfold m_op at ho ⊢
  split at ho
  · next f1 h1 =>
    cases Option.some.inj ho
    obtain ⟨b', e1, e2, e3⟩ := m_op1_le hl hb h1
    rw [e1]
    exact ⟨b', rfl, e2, e3⟩
  · next h1 =>
    split at ho
    · next f2 h2 =>
      cases Option.some.inj ho
      obtain ⟨e0, e1⟩ := m_op2_le (b := b) h2
      rw [m_op21 (aux := aux) (b := b) h2, e1, e0]
      exact ⟨b, rfl, hl, hb⟩
    · next h2 =>
      obtain ⟨e0, e1⟩ := m_op3_le (b := b) ho
      rw [m_op31 (b := b) ho, e0]
      have h2b : m_op2 ins pc b st h = none := by
        cases hx : m_op2 ins pc b st h with
        | none => rfl
        | some f =>
          obtain ⟨p, l, t, g⟩ := f
          have h3 := (m_op2_le (b := a) hx).2
          rw [h2] at h3
          cases h3
      rw [h2b, e1]
      exact ⟨b, rfl, hl, hb⟩
theorem m_run_weak {N : Nat} {xs : Nat → Int32} : ∀ (n d : Nat) (e : mM) (pc : Nat) (a b : List (Option Value)) (st : List Value) (h : mH) {r : Option Value × mH}, m_le a b → m_nd b → m_run m_tab N xs n d e pc a st h = some r → m_run m_tab N xs n d e pc b st h = some r := by
  intro n
  induction n with
  | zero => intro d e pc a b st h r _ _ hr; cases hr
  | succ n ih =>
    intro d e pc a b st h r hl hb hr
    unfold m_run at hr ⊢
    split at hr
    · cases hr
    · next ins aux hat =>
      split at hr
      · exact hr
      · split at hr
        · next y k hcall =>
          split at hr
          · cases hr
          · next d' =>
            split at hr
            · next hc =>
              rw [if_pos hc]
              split at hr
              · next v h1 hrun =>
                exact ih _ _ _ _ _ _ _ hl hb hr
              · cases hr
            · cases hr
        · split at hr
          · next pc1 ls1 st1 h1 hop =>
            obtain ⟨b', e1, e2, e3⟩ := m_op_le hl hb hop
            rw [e1]
            exact ih _ _ _ _ _ _ _ e2 e3 hr
          · cases hr
theorem m_run_dep {N : Nat} {xs : Nat → Int32} : ∀ (n d : Nat) (e : mM) (pc : Nat) (a : List (Option Value)) (st : List Value) (h : mH) {r : Option Value × mH} (k : Nat), m_run m_tab N xs n d e pc a st h = some r → m_run m_tab N xs n (d + k) e pc a st h = some r := by
  intro n
  induction n with
  | zero => intro d e pc a st h r k hr; cases hr
  | succ n ih =>
    intro d e pc a st h r k hr
    unfold m_run at hr ⊢
    split at hr
    · cases hr
    · next ins aux hat =>
      split at hr
      · exact hr
      · split at hr
        · next y kk hcall =>
          split at hr
          · cases hr
          · next d' =>
            split at hr
            · next hc =>
              rw [show d' + 1 + k = (d' + k) + 1 by omega]
              simp only [if_pos hc]
              split at hr
              · next v h1 hrun =>
                rw [ih _ _ _ _ _ _ k hrun]
                simp only
                rw [show (d' + k) + 1 = d' + 1 + k by omega]
                exact ih _ _ _ _ _ _ k hr
              · cases hr
            · cases hr
        · split at hr
          · next pc1 ls1 st1 h1 hop => exact ih _ _ _ _ _ _ k hr
          · cases hr
