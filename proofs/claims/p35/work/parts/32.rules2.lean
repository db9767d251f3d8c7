/-! RULES FOR THE PRINTED FUNCTIONS -/
abbrev mG : Type := (Nat → Nat → Int32) × (Nat → Nat → Int64)
abbrev ci (n : Int) : Int32 := Int32.ofInt n
abbrev c8 (n : Int) : Int32 := (Int8.ofInt n).toInt32
abbrev c16 (n : Int) : Int32 := (Int16.ofInt n).toInt32
abbrev cn (n : Nat) : Int32 := Int32.ofNat n
abbrev cz (n : Fin 2) : Int64 := Int64.ofNat (n : Nat)
abbrev cl (n : Int) : Int64 := Int64.ofInt n
abbrev ushr (x y : Int32) : Int32 := (x.toUInt32 >>> (y.toUInt32 &&& Int32.toUInt32 31)).toInt32
abbrev rm (x y : Int32) : Int32 := x - x / y * y
abbrev iabs (x : Int32) : Int32 := if 0 ≤ x then x else 0 - x
abbrev imax (x y : Int32) : Int32 := if x < y then y else x
abbrev imin (x y : Int32) : Int32 := if y < x then y else x
abbrev lmax (x y : Int64) : Int64 := if y < x then x else y
abbrev optv (o : Option Nat) : Option Value := match o with
  | some a => some (.ref a)
  | none => some .null
def mal (j : Nat) : Option Nat := match SH[j]? with
  | some (.inl (k, n, _)) => if k < 3 then some n else none
  | some (.inr _) => none
  | none => if j = 1000001 then some 5 else if 1000200 ≤ j ∧ j < 1000227 then some (m_sb.getD (j - 1000200) []).length else none
def mia (s : mG) (j : Nat) (i : Int32) : Option Int32 := match SH[j]? with
  | some (.inl (0, n, _)) => if i < 0 ∨ n ≤ i.toNatClampNeg then none else some (s.1 j i.toNatClampNeg)
  | some _ => none
  | none => if j = 1000001 then (if i < 0 ∨ 5 ≤ i.toNatClampNeg then none else some (m_unt.getD i.toNatClampNeg 0)) else none
/-- a loop, as often as it goes -/
def lp {σ ρ : Type} (body : σ → Option (σ ⊕ ρ)) : Nat → σ → Option ρ
  | 0, _ => none
  | n + 1, v => match body v with
    | none => none
    | some (.inl v') => lp body n v'
    | some (.inr a) => some a
theorem lp_succ {σ ρ : Type} {body : σ → Option (σ ⊕ ρ)} : ∀ {n : Nat} {v : σ} {a : ρ}, lp body n v = some a → lp body (n + 1) v = some a := by
  intro n
  induction n with
  | zero => intro v a h; cases h
  | succ n ih =>
    intro v a h
    unfold lp at h ⊢
    split at h
    · cases h
    · exact ih h
    · exact h
theorem lp_le {σ ρ : Type} {body : σ → Option (σ ⊕ ρ)} {n n' : Nat} {v : σ} {a : ρ} (h : lp body n v = some a) (hn : n ≤ n') : lp body n' v = some a := by
  induction hn with
  | refl => exact h
  | step _ ih => exact lp_succ ih
noncomputable def whl {σ ρ : Type} (body : σ → Option (σ ⊕ ρ)) (v : σ) : Option ρ := Classical.epsilon (fun o : Option ρ => (∃ n, lp body n v = o ∧ o ≠ none) ∨ (o = none ∧ ∀ n, lp body n v = none))
theorem whl_spec {σ ρ : Type} {body : σ → Option (σ ⊕ ρ)} {v : σ} {a : ρ} : whl body v = some a ↔ ∃ n, lp body n v = some a := by
  have hex : ∃ o : Option ρ, (∃ n, lp body n v = o ∧ o ≠ none) ∨ (o = none ∧ ∀ n, lp body n v = none) := by
    by_cases h : ∃ n, lp body n v ≠ none
    · obtain ⟨n, hn⟩ := h
      exact ⟨_, Or.inl ⟨n, rfl, hn⟩⟩
    · refine ⟨none, Or.inr ⟨rfl, fun n => ?_⟩⟩
      by_cases q : lp body n v = none
      · exact q
      · exact absurd ⟨n, q⟩ h
  have hs := Classical.epsilon_spec hex
  change (∃ n, lp body n v = whl body v ∧ whl body v ≠ none) ∨ (whl body v = none ∧ ∀ n, lp body n v = none) at hs
  constructor
  · intro h
    rw [h] at hs
    rcases hs with ⟨n, hn, -⟩ | ⟨hn, -⟩
    · exact ⟨n, hn⟩
    · cases hn
  · rintro ⟨n, hn⟩
    rcases hs with ⟨m, hm, hne⟩ | ⟨-, hall⟩
    · cases hw : whl body v with
      | none => exact absurd hw hne
      | some b =>
        rw [hw] at hm
        have h1 := lp_le hn (Nat.le_max_left n m)
        have h2 := lp_le hm (Nat.le_max_right n m)
        rw [h1] at h2
        exact h2.symm
    · rw [hall n] at hn; cases hn
theorem whl_eq {σ ρ : Type} (body : σ → Option (σ ⊕ ρ)) (v : σ) : whl body v = match body v with
    | none => none
    | some (.inl v') => whl body v'
    | some (.inr a) => some a := by
  apply Option.ext
  intro a
  rw [whl_spec]
  constructor
  · rintro ⟨n, hn⟩
    cases n with
    | zero => cases hn
    | succ n =>
      unfold lp at hn
      split at hn
      · cases hn
      · exact whl_spec.mpr ⟨n, hn⟩
      · exact hn
  · intro h
    split at h
    · cases h
    · next v' hv =>
      obtain ⟨n, hn⟩ := whl_spec.mp h
      exact ⟨n + 1, by unfold lp; rw [hv]; exact hn⟩
    · next b hv => exact ⟨1, by unfold lp; rw [hv]; exact h⟩
theorem whl_link {σ ρ : Type} {body : σ → Option (σ ⊕ ρ)} {P : σ → Prop} {C : σ ⊕ ρ → Prop} {C' : ρ → Prop} (hb : ∀ v τ, body v = some τ → C τ → P v) (h1 : ∀ v, P v → C (.inl v)) (h2 : ∀ a, C' a → C (.inr a)) : ∀ v τ', whl body v = some τ' → C' τ' → P v := by
  intro v τ' hw hc
  obtain ⟨n, hn⟩ := whl_spec.mp hw
  induction n generalizing v with
  | zero => cases hn
  | succ n ih =>
    unfold lp at hn
    split at hn
    · cases hn
    · next v' hv => exact hb v _ hv (h1 _ (ih v' (whl_spec.mpr ⟨n, hn⟩) hn))
    · next a hv => cases hn; exact hb v _ hv (h2 _ hc)
def m_ndb : List (Option Value) → Bool
  | [] => true
  | some (.double _) :: _ => false
  | _ :: r => m_ndb r
theorem m_ndb_ok : ∀ {l : List (Option Value)}, m_ndb l = true → m_nd l := by
  intro l
  induction l with
  | nil => intro _ i x h; simp at h
  | cons a r ih =>
    intro h i x hi
    have hr : m_ndb r = true := by
      cases a with
      | none => exact h
      | some v => cases v <;> first | exact h | cases h
    cases i with
    | zero =>
      simp at hi
      subst hi
      simp [m_ndb] at h
    | succ i => exact ih hr i x (by simpa using hi)
section R2
variable {N : Nat} {xs : Nat → Int32} {d pc pc' : Nat} {e y : mM} {ls ls' : List (Option Value)} {st st' : List Value} {h h1 : mH} {r : Option Value × mH} {ins : Instr} {aux : List Int}
theorem Rn_weaken {a b : List (Option Value)} (hle : m_le a b) (hnd : m_ndb b = true) (hr : Rn N xs d e pc a st h r) : Rn N xs d e pc b st h r := by
  obtain ⟨n, hn⟩ := hr
  exact ⟨n, m_run_weak n _ _ _ _ _ _ _ hle (m_ndb_ok hnd) hn⟩
theorem Rn_ev (hs : m_srt e.2.2.2.2.2.2.2 = true) (p : Nat) (hp : (e.2.2.2.2.2.2.2)[p]? = some (pc, ins, aux)) (hi : m_isRet ins = false) (hc : m_call m_tab ins aux = none) (hop : m_op N xs ins aux pc ls st h = some (pc', ls', st', h1)) (kk : Rn N xs d e pc' ls' st' h1 r) : Rn N xs d e pc ls st h r :=
  Rn_op (m_srt_at hs (List.mem_of_getElem? hp)) hi hc hop kk
theorem Rn_dep (k : Nat) (hr : Rn N xs d e pc ls st h r) : Rn N xs (d + k) e pc ls st h r := by
  obtain ⟨n, hn⟩ := hr
  exact ⟨n, m_run_dep n _ _ _ _ _ _ k hn⟩
end R2
section R3
variable {N : Nat} {xs : Nat → Int32} {pc i0 : Nat} {ls : List (Option Value)} {st : List Value} {s : mG} {aux : List Int} {a3 a4 a5 : Int} {t j n k : Nat} {q : List (Option Nat)} {i x y : Int32} {u w : Int64}
theorem op_gfT0 (h : isT t) : m_op N xs (.getfield i0) [10, 0, a3, a4, a5] pc ls (.ref t :: st) (SH, s) = some (pc + 3, ls, .int (s.1 t 0) :: st, (SH, s)) := by simp [m_op, m_op1, m_op2, m_op3, m_gf, h.1]
theorem op_gfT1 (h : isT t) : m_op N xs (.getfield i0) [10, 1, a3, a4, a5] pc ls (.ref t :: st) (SH, s) = some (pc + 3, ls, .int (s.1 t 1) :: st, (SH, s)) := by simp [m_op, m_op1, m_op2, m_op3, m_gf, h.1]
theorem op_gfT2 (h : isT t) : m_op N xs (.getfield i0) [10, 2, a3, a4, a5] pc ls (.ref t :: st) (SH, s) = some (pc + 3, ls, .ref (t + 1) :: st, (SH, s)) := by simp [m_op, m_op1, m_op2, m_op3, m_gf, h.1]
theorem op_gfT3 (h : isT t) : m_op N xs (.getfield i0) [10, 3, a3, a4, a5] pc ls (.ref t :: st) (SH, s) = some (pc + 3, ls, .int (s.1 t 3) :: st, (SH, s)) := by simp [m_op, m_op1, m_op2, m_op3, m_gf, h.1]
theorem op_gfH0 (h : isH t) : m_op N xs (.getfield i0) [2, 0, a3, a4, a5] pc ls (.ref t :: st) (SH, s) = some (pc + 3, ls, .ref (t + 1) :: st, (SH, s)) := by simp [m_op, m_op1, m_op2, m_op3, m_gf, h.1]
theorem op_gfH1 (h : isH t) : m_op N xs (.getfield i0) [2, 1, a3, a4, a5] pc ls (.ref t :: st) (SH, s) = some (pc + 3, ls, .ref (t + 3) :: st, (SH, s)) := by simp [m_op, m_op1, m_op2, m_op3, m_gf, h.1]
theorem op_gfH2 (h : isH t) : m_op N xs (.getfield i0) [2, 2, a3, a4, a5] pc ls (.ref t :: st) (SH, s) = some (pc + 3, ls, .ref (t + 5) :: st, (SH, s)) := by simp [m_op, m_op1, m_op2, m_op3, m_gf, h.1]
theorem op_gfH3 (h : isH t) : m_op N xs (.getfield i0) [2, 3, a3, a4, a5] pc ls (.ref t :: st) (SH, s) = some (pc + 3, ls, .ref (t + 7) :: st, (SH, s)) := by simp [m_op, m_op1, m_op2, m_op3, m_gf, h.1]
theorem op_gfH4 (h : isH t) : m_op N xs (.getfield i0) [2, 4, a3, a4, a5] pc ls (.ref t :: st) (SH, s) = some (pc + 3, ls, .ref (t + 9) :: st, (SH, s)) := by simp [m_op, m_op1, m_op2, m_op3, m_gf, h.1]
theorem op_gfH5 (h : isH t) : m_op N xs (.getfield i0) [2, 5, a3, a4, a5] pc ls (.ref t :: st) (SH, s) = some (pc + 3, ls, .ref (t + 11) :: st, (SH, s)) := by simp [m_op, m_op1, m_op2, m_op3, m_gf, h.1]
theorem op_gfH6 (h : isH t) : m_op N xs (.getfield i0) [2, 6, a3, a4, a5] pc ls (.ref t :: st) (SH, s) = some (pc + 3, ls, .ref (t + 13) :: st, (SH, s)) := by simp [m_op, m_op1, m_op2, m_op3, m_gf, h.1]
theorem op_gfH7 (h : isH t) : m_op N xs (.getfield i0) [2, 7, a3, a4, a5] pc ls (.ref t :: st) (SH, s) = some (pc + 3, ls, .ref (t + 15) :: st, (SH, s)) := by simp [m_op, m_op1, m_op2, m_op3, m_gf, h.1]
theorem op_gfH8 (h : isH t) : m_op N xs (.getfield i0) [2, 8, a3, a4, a5] pc ls (.ref t :: st) (SH, s) = some (pc + 3, ls, .int (s.1 t 8) :: st, (SH, s)) := by simp [m_op, m_op1, m_op2, m_op3, m_gf, h.1]
theorem op_gfH9 (h : isH t) : m_op N xs (.getfield i0) [2, 9, a3, a4, a5] pc ls (.ref t :: st) (SH, s) = some (pc + 3, ls, .int (s.1 t 9) :: st, (SH, s)) := by simp [m_op, m_op1, m_op2, m_op3, m_gf, h.1]
theorem op_gfH10 (h : isH t) : m_op N xs (.getfield i0) [2, 10, a3, a4, a5] pc ls (.ref t :: st) (SH, s) = some (pc + 3, ls, .int (s.1 t 10) :: st, (SH, s)) := by simp [m_op, m_op1, m_op2, m_op3, m_gf, h.1]
theorem op_gfH11 (h : isH t) : m_op N xs (.getfield i0) [2, 11, a3, a4, a5] pc ls (.ref t :: st) (SH, s) = some (pc + 3, ls, .int (s.1 t 11) :: st, (SH, s)) := by simp [m_op, m_op1, m_op2, m_op3, m_gf, h.1]
theorem op_gfM0 (h : isM t) : m_op N xs (.getfield i0) [4, 0, a3, a4, a5] pc ls (.ref t :: st) (SH, s) = some (pc + 3, ls, .ref (t + 1) :: st, (SH, s)) := by simp [m_op, m_op1, m_op2, m_op3, m_gf, h.1]
theorem op_gfM1 (h : isM t) : m_op N xs (.getfield i0) [4, 1, a3, a4, a5] pc ls (.ref t :: st) (SH, s) = some (pc + 3, ls, .int (s.1 t 1) :: st, (SH, s)) := by simp [m_op, m_op1, m_op2, m_op3, m_gf, h.1]
theorem op_gfM2 (h : isM t) : m_op N xs (.getfield i0) [4, 2, a3, a4, a5] pc ls (.ref t :: st) (SH, s) = some (pc + 3, ls, .int (s.1 t 2) :: st, (SH, s)) := by simp [m_op, m_op1, m_op2, m_op3, m_gf, h.1]
theorem op_gfM3 (h : isM t) : m_op N xs (.getfield i0) [4, 3, a3, a4, a5] pc ls (.ref t :: st) (SH, s) = some (pc + 3, ls, .int (s.1 t 3) :: st, (SH, s)) := by simp [m_op, m_op1, m_op2, m_op3, m_gf, h.1]
theorem op_pfT3 (h : isT t) : m_op N xs (.putfield i0) [10, 3, a3, 0, a5] pc ls (.int x :: .ref t :: st) (SH, s) = some (pc + 3, ls, st, (SH, (mu s.1 t 3 x, s.2))) := by simp [m_op, m_op1, m_op2, m_op3, m_pf, h.1]
theorem op_pfH8 (h : isH t) : m_op N xs (.putfield i0) [2, 8, a3, 0, a5] pc ls (.int x :: .ref t :: st) (SH, s) = some (pc + 3, ls, st, (SH, (mu s.1 t 8 x, s.2))) := by simp [m_op, m_op1, m_op2, m_op3, m_pf, h.1]
theorem op_pfH9 (h : isH t) : m_op N xs (.putfield i0) [2, 9, a3, 0, a5] pc ls (.int x :: .ref t :: st) (SH, s) = some (pc + 3, ls, st, (SH, (mu s.1 t 9 x, s.2))) := by simp [m_op, m_op1, m_op2, m_op3, m_pf, h.1]
theorem op_pfH10 (h : isH t) : m_op N xs (.putfield i0) [2, 10, a3, 0, a5] pc ls (.int x :: .ref t :: st) (SH, s) = some (pc + 3, ls, st, (SH, (mu s.1 t 10 x, s.2))) := by simp [m_op, m_op1, m_op2, m_op3, m_pf, h.1]
theorem op_pfH11 (h : isH t) : m_op N xs (.putfield i0) [2, 11, a3, 0, a5] pc ls (.int x :: .ref t :: st) (SH, s) = some (pc + 3, ls, st, (SH, (mu s.1 t 11 x, s.2))) := by simp [m_op, m_op1, m_op2, m_op3, m_pf, h.1]
theorem op_pfM1 (h : isM t) : m_op N xs (.putfield i0) [4, 1, a3, 0, a5] pc ls (.int x :: .ref t :: st) (SH, s) = some (pc + 3, ls, st, (SH, (mu s.1 t 1 x, s.2))) := by simp [m_op, m_op1, m_op2, m_op3, m_pf, h.1]
theorem op_pfM2 (h : isM t) : m_op N xs (.putfield i0) [4, 2, a3, 0, a5] pc ls (.int x :: .ref t :: st) (SH, s) = some (pc + 3, ls, st, (SH, (mu s.1 t 2 x, s.2))) := by simp [m_op, m_op1, m_op2, m_op3, m_pf, h.1]
theorem op_pfM3 (h : isM t) : m_op N xs (.putfield i0) [4, 3, a3, 0, a5] pc ls (.int x :: .ref t :: st) (SH, s) = some (pc + 3, ls, st, (SH, (mu s.1 t 3 x, s.2))) := by simp [m_op, m_op1, m_op2, m_op3, m_pf, h.1]
theorem op_alT (h : isT t) : m_op N xs .arraylength aux pc ls (.ref (t + 1) :: st) (SH, s) = some (pc + 1, ls, .int (cn (m_alen (t + 1))) :: st, (SH, s)) := by simp [m_op, m_op1, m_op2, m_op3, m_al, h.2]
theorem op_alv (h : mal j = some n) : m_op N xs .arraylength aux pc ls (.ref j :: st) (SH, s) = some (pc + 1, ls, .int (cn n) :: st, (SH, s)) := by
  have h2 : m_al N (SH, s) j = some n := by
    unfold mal at h
    unfold m_al
    split at h
    · next hs => simp only [hs]; exact h
    · cases h
    · next hs =>
      simp only [hs]
      by_cases h0 : j = 1000000
      · subst h0; simp at h
      · rw [if_neg h0]; exact h
  simp [m_op, m_op1, m_op2, m_op3, h2]
theorem op_iav {v : Int32} (h : mia s j i = some v) : m_op N xs .iaload aux pc ls (.int i :: .ref j :: st) (SH, s) = some (pc + 1, ls, .int v :: st, (SH, s)) := by
  have h2 : m_ia N xs (SH, s) j i = some v := by
    unfold mia at h
    unfold m_ia
    split at h
    · next hs => simp only [hs]; exact h
    · cases h
    · next hs =>
      simp only [hs]
      by_cases h0 : j = 1000000
      · subst h0; simp at h
      · rw [if_neg h0]; exact h
  simp [m_op, m_op1, m_op2, m_op3, h2]
theorem op_ia (hj : SH[j]? = some (.inl (0, n, q))) (hin : ¬ (i < 0 ∨ n ≤ i.toNatClampNeg)) {k : Nat} (hk : i.toNatClampNeg = k) : m_op N xs .iaload aux pc ls (.int i :: .ref j :: st) (SH, s) = some (pc + 1, ls, .int (s.1 j k) :: st, (SH, s)) := by
  have h2 : m_ia N xs (SH, s) j i = some (s.1 j k) := by subst hk; unfold m_ia; simp only [hj, if_neg hin]
  simp [m_op, m_op1, m_op2, m_op3, h2]
theorem op_la (hj : SH[j]? = some (.inl (1, n, q))) (hin : ¬ (i < 0 ∨ n ≤ i.toNatClampNeg)) {k : Nat} (hk : i.toNatClampNeg = k) : m_op N xs .laload aux pc ls (.int i :: .ref j :: st) (SH, s) = some (pc + 1, ls, .long (s.2 j k) :: st, (SH, s)) := by
  subst hk
  simp only [m_op, m_op1, m_op2, m_op3, hj, if_neg hin]
theorem op_ias (hj : SH[j]? = some (.inl (0, n, q))) (hin : ¬ (i < 0 ∨ n ≤ i.toNatClampNeg)) {k : Nat} (hk : i.toNatClampNeg = k) : m_op N xs .iastore aux pc ls (.int x :: .int i :: .ref j :: st) (SH, s) = some (pc + 1, ls, st, (SH, (mu s.1 j k x, s.2))) := by
  subst hk
  simp only [m_op, m_op1, m_op2, m_op3, hj, if_neg hin]
theorem op_las (hj : SH[j]? = some (.inl (1, n, q))) (hin : ¬ (i < 0 ∨ n ≤ i.toNatClampNeg)) {k : Nat} (hk : i.toNatClampNeg = k) : m_op N xs .lastore aux pc ls (.long u :: .int i :: .ref j :: st) (SH, s) = some (pc + 1, ls, st, (SH, (s.1, muL s.2 j k u))) := by
  subst hk
  simp only [m_op, m_op1, m_op2, m_op3, hj, if_neg hin]
theorem op_idiv (hy : ¬ y = 0) : m_op N xs .idiv aux pc ls (.int y :: .int x :: st) (SH, s) = some (pc + 1, ls, .int (x / y) :: st, (SH, s)) := by
  simp only [m_op, m_op1, m_op2, if_neg hy]
theorem op_irem (hy : ¬ y = 0) : m_op N xs .irem aux pc ls (.int y :: .int x :: st) (SH, s) = some (pc + 1, ls, .int (rm x y) :: st, (SH, s)) := by
  simp only [m_op, m_op1, m_op2, if_neg hy]
theorem op_ldiv (hy : ¬ w = 0) : m_op N xs .ldiv aux pc ls (.long w :: .long u :: st) (SH, s) = some (pc + 1, ls, .long (u / w) :: st, (SH, s)) := by
  simp only [m_op, m_op1, m_op2, if_neg hy]
theorem op_gs0 (h : 1000100 ≤ t ∧ t < 1000127) : m_op N xs (.getfield i0) [-1, 0, a3] pc ls (.ref t :: st) (SH, s) = some (pc + 3, ls, .ref (t + 100) :: st, (SH, s)) := by
  simp only [m_op, m_op1, m_op2, m_op3]; rw [if_pos h]; rfl
theorem op_gs1 (h : 1000100 ≤ t ∧ t < 1000127) : m_op N xs (.getfield i0) [-1, 1, a3] pc ls (.ref t :: st) (SH, s) = some (pc + 3, ls, .int 0 :: st, (SH, s)) := by
  simp only [m_op, m_op1, m_op2, m_op3]; rw [if_pos h]; rfl
theorem op_ba (h : 1000200 ≤ j ∧ j < 1000227) (hin : ¬ (i < 0 ∨ (m_sb.getD (j - 1000200) []).length ≤ i.toNatClampNeg)) : m_op N xs .baload aux pc ls (.int i :: .ref j :: st) (SH, s) = some (pc + 1, ls, .int ((m_sb.getD (j - 1000200) []).getD i.toNatClampNeg 0) :: st, (SH, s)) := by
  simp only [m_op, m_op1, m_op2, m_op3]; rw [if_pos h, if_neg hin]
theorem op_aa (hin : ¬ (i < 0 ∨ 6 ≤ i.toNatClampNeg)) : m_op N xs .aaload aux pc ls (.int i :: .ref 36 :: st) (SH, s) = some (pc + 1, ls, .ref (37 + 3 * i.toNatClampNeg) :: st, (SH, s)) := by
  have h36 : SH[36]? = some (.inl (2, 6, [some 37, some 40, some 43, some 46, some 49, some 52])) := rfl
  have hg : ∀ c, c < 6 → ([some 37, some 40, some 43, some 46, some 49, some 52] : List (Option Nat)).getD c none = some (37 + 3 * c) := by decide
  simp only [m_op, m_op1, m_op2, m_op3, h36, if_neg hin]
  rw [hg _ (Nat.not_le.mp fun z => hin (Or.inr z))]
theorem op_sw {ins : Instr} {aux : List Int} {v : Int} {f : mF} {h : mH} (hx : x = ci v) (hr : m_op N xs ins aux pc ls (.int (ci v) :: st) h = some f) : m_op N xs ins aux pc ls (.int x :: st) h = some f := hx ▸ hr
theorem op_swd {dd lo hi : Int} {offs : Array Int} {tg : Nat} (hx : x.toInt < lo ∨ hi < x.toInt) (ht : m_to pc dd = tg) : m_op N xs (.tableswitch dd lo hi offs) aux pc ls (.int x :: st) (SH, s) = some (tg, ls, st, (SH, s)) := by
  simp only [m_op, m_op1, m_op2, if_pos hx, ht]
theorem sw_out {lo hi : Int} (hlo : -2147483648 ≤ lo) (hhi : hi ≤ 2147483647) (h : ∀ v : Int, lo ≤ v → v ≤ hi → ¬ x = ci v) : x.toInt < lo ∨ hi < x.toInt := by
  by_cases h1 : x.toInt < lo
  · exact Or.inl h1
  · by_cases h2 : hi < x.toInt
    · exact Or.inr h2
    · exact absurd (by simp) (h x.toInt (by omega) (by omega))
theorem recv_T {As : List Value} (h : isT t) : m_recv (SH, s) 1 10 (.ref t :: As) = true := by simp [m_recv, h.1]
theorem recv_H {As : List Value} (h : isH t) : m_recv (SH, s) 1 2 (.ref t :: As) = true := by simp [m_recv, h.1]
theorem recv_M {As : List Value} (h : isM t) : m_recv (SH, s) 1 4 (.ref t :: As) = true := by simp [m_recv, h.1]
theorem recv_s {As : List Value} (h : 1000100 ≤ t ∧ t < 1000127) : m_recv (SH, s) 1 99 (.ref t :: As) = true := by
  show decide (1000100 ≤ t ∧ t < 1000127) = true
  exact decide_eq_true h
end R3
