noncomputable section
/-! THE SHORTEST SPAN -/
def sD (f : Nat → Int64) (s : Nat) : Nat → Int
  | 0 => 0
  | l + 1 => sD f s l + (f (s + l)).toInt
theorem sD_s {f : Nat → Int64} {s l : Nat} : sD f s (l + 1) = sD f s l + (f (s + l)).toInt := rfl
theorem sD_b {f : Nat → Int64} (hf : ∀ i, 0 ≤ (f i).toInt ∧ (f i).toInt ≤ 1000000) (s : Nat) : ∀ l : Nat, 0 ≤ sD f s l ∧ sD f s l ≤ l * 1000000 := by
  intro l
  induction l with
  | zero => exact ⟨Int.le_refl _, Int.le_refl _⟩
  | succ l ih =>
    rw [sD_s]
    have h := hf (s + l)
    generalize (f (s + l)).toInt = F at h
    generalize sD f s l = S at ih
    exact ⟨by omega, by omega⟩
theorem V_chWithin {u : mG} {f : Nat → Int64} (hf : ∀ i, 0 ≤ (f i).toInt ∧ (f i).toInt ≤ 1000000) (hu : ∀ i, i < 13 → Su (u.1 75 i) (f i)) {s l : Nat} (hs : s + l ≤ 12) : pk (F_X0_chanceWithin u (cn s) (cn (s + l))) (fun v => v.toInt = sD f s (l + 1)) := by
  unfold F_X0_chanceWithin F_X0_chanceWithin_L5
  refine pk_whl (fun v => v.1 = cn (s + l) ∧ ∃ k, k ≤ l + 1 ∧ v.2.1.toInt = sD f s k ∧ v.2.2 = cn (s + k)) ⟨rfl, 0, Nat.zero_le _, (show (ci 0).toInt = 0 by decide), rfl⟩ (fun v hv => ?_)
  obtain ⟨x2, x3, x4⟩ := v
  obtain ⟨q0o, k, hk, q1o, q2o⟩ := hv
  have q0 : x2 = cn (s + l) := q0o
  have q1 : x3.toInt = sD f s k := q1o
  have q2 : x4 = cn (s + k) := q2o
  unfold F_X0_chanceWithin_B5
  dsimp only
  rw [q0, q2]
  by_cases hkl : l < k
  · have ek : k = l + 1 := by omega
    rw [if_pos ((cn_lt (by omega) (by omega)).mpr (by omega))]
    rw [ek] at q1
    exact pk_some (show x3.toInt = _ from q1)
  rw [if_neg (fun q => hkl (by have := (cn_lt (by omega) (by omega)).mp q; omega)), V_cellJ (j := 75) (k := s + k) sh75 (by omega) (by decide), b1_some]
  have b1' := (sD_b hf s k)
  have b2' := hf (s + k)
  have e2 := Su_t (hu (s + k) (by omega))
  have c : -2147483648 ≤ sD f s k + (f (s + k)).toInt ∧ sD f s k + (f (s + k)).toInt < 2147483648 := by
    generalize (f (s + k)).toInt = F at b2'
    generalize sD f s k = S at b1'
    exact ⟨by omega, by omega⟩
  exact pk_some (show _ ∧ ∃ k', _ from ⟨rfl, k + 1, by omega, r_add q1 e2.symm c.1 c.2, cnu (by omega)⟩)
/-- the best span: the shortest, then the lowest -/
def Sp (n : Nat) (f : Nat → Int64) (T : Int) (y r : Int32) : Prop := (∃ s l, s + l ≤ n ∧ T ≤ sD f s (l + 1) ∧ (∀ s' l', s' + l' ≤ n → T ≤ sD f s' (l' + 1) → l < l' ∨ (l = l' ∧ s ≤ s')) ∧ r = if y = 0 then cn s else cn (s + l)) ∨ ((∀ s' l', s' + l' ≤ n → ¬ T ≤ sD f s' (l' + 1)) ∧ r = ci (-1))
theorem Sp_u {n : Nat} {f : Nat → Int64} {T : Int} {y r r' : Int32} (h : Sp n f T y r) (k : Sp n f T y r') : r = r' := by
  rcases h with ⟨s, l, h1, h2, h3, h4⟩ | ⟨h1, h2⟩
  · rcases k with ⟨s', l', k1, k2, k3, k4⟩ | ⟨k1, k2⟩
    · have a1 := h3 s' l' k1 k2
      have a2 := k3 s l h1 h2
      have es : s = s' := by omega
      have el : l = l' := by omega
      rw [h4, k4, es, el]
    · exact absurd h2 (k1 s l h1)
  · rcases k with ⟨s', l', k1, k2, k3, k4⟩ | ⟨k1, k2⟩
    · exact absurd k2 (h1 s' l' k1)
    · rw [h2, k2]
theorem V_edgeC {a b : mG} {n nc m : Nat} {x y : Int32} (hI : IM b) (K : HK (b.1 89) n nc a) (h3 : a.1 10 3 = cn m) (hw : b.1 89 115 = cn m) (hm : m ≤ 6) (hx : 0 ≤ x.toInt ∧ x.toInt ≤ 1000) : pk (F_X0_spanEdge x y a) (fun τ => Sp n (dN (b.1 89) m 12 n) (1000 * x.toInt) y τ.1) := by
  have hn := K.2.2.1
  have hf : ∀ i, 0 ≤ (dN (b.1 89) m 12 n i).toInt ∧ (dN (b.1 89) m 12 n i).toInt ≤ 1000000 := dN_r hI hw hm n
  unfold F_X0_spanEdge
  refine pk_b1 (V_countC (sk := 12) hI K h3 hw hm (fun k hk => ⟨fun e => absurd e (cn_ne1 (by omega)), fun e => by omega⟩)) (fun u qu => ?_)
  obtain ⟨u1, u0, u2⟩ := qu
  have Ku : HK (b.1 89) n nc u := HK_low K (fun j h1 h2 => u2 j (by omega) (by omega) (by omega) (by omega) (by omega))
  generalize dN (b.1 89) m 12 n = f at hf u1 ⊢
  have eT : (x * c16 1000).toInt = 1000 * x.toInt := by
    rw [r_mul (rfl : x.toInt = _) (by decide : (c16 1000).toInt = 1000) (by omega) (by omega)]
    omega
  rw [Ku.2.1]
  unfold F_X0_spanEdge_L19
  refine pk_whl (fun v => v.1 = x ∧ v.2.1 = y ∧ v.2.2.1 = cn n ∧ ∃ k, k ≤ n + 1 ∧ v.2.2.2.1 = cn k ∧ (∀ s' l', s' + l' ≤ n → l' < k → ¬ 1000 * x.toInt ≤ sD f s' (l' + 1)) ∧ v.2.2.2.2 = u) ⟨rfl, rfl, rfl, 0, Nat.zero_le _, rfl, fun _ l' _ h => absurd h (by omega), rfl⟩ (fun v hv => ?_)
  obtain ⟨x1, x2, x3, x4, s⟩ := v
  obtain ⟨q0o, q1o, q2o, k, hk, q3o, q4o, q5o⟩ := hv
  have q0 : x1 = x := q0o
  have q1 : x2 = y := q1o
  have q2 : x3 = cn n := q2o
  have q3 : x4 = cn k := q3o
  have q4 : ∀ s' l', s' + l' ≤ n → l' < k → ¬ 1000 * x.toInt ≤ sD f s' (l' + 1) := q4o
  have q5 : s = u := q5o
  unfold F_X0_spanEdge_B19
  dsimp only
  rw [q0, q1, q2, q3, q5]
  by_cases hkn : n < k
  · rw [if_pos ((cn_lt (by omega) (by omega)).mpr hkn)]
    exact pk_some (show Sp n f (1000 * x.toInt) y (ci (-1)) from Or.inr ⟨fun s' l' h => q4 s' l' h (by omega), rfl⟩)
  rw [if_neg (fun q => hkn ((cn_lt (by omega) (by omega)).mp q))]
  unfold F_X0_spanEdge_L28
  refine pk_whl (fun v => v.1 = x ∧ v.2.1 = y ∧ v.2.2.1 = cn n ∧ v.2.2.2.1 = cn k ∧ ∃ p, p + k ≤ n + 1 ∧ v.2.2.2.2.1 = cn p ∧ (∀ s', s' < p → ¬ 1000 * x.toInt ≤ sD f s' (k + 1)) ∧ v.2.2.2.2.2 = u) ⟨rfl, rfl, rfl, rfl, 0, by omega, rfl, fun s' h => absurd h (by omega), rfl⟩ (fun v hv => ?_)
  obtain ⟨y1, y2, y3, y4, y5, t⟩ := v
  obtain ⟨p0o, p1o, p2o, p3o, p, hp, p4o, p5o, p6o⟩ := hv
  have p0 : y1 = x := p0o
  have p1 : y2 = y := p1o
  have p2 : y3 = cn n := p2o
  have p3 : y4 = cn k := p3o
  have p4 : y5 = cn p := p4o
  have p5 : ∀ s', s' < p → ¬ 1000 * x.toInt ≤ sD f s' (k + 1) := p5o
  have p6 : t = u := p6o
  unfold F_X0_spanEdge_B28
  dsimp only
  rw [p0, p1, p2, p3, p4, p6, cn_add (a := p) (b := k) (by omega)]
  by_cases hpn : n < p + k
  · rw [if_pos ((cn_lt (by omega) (by omega)).mpr hpn)]
    refine pk_some (show _ ∧ _ ∧ _ ∧ ∃ k', _ from ⟨rfl, rfl, rfl, k + 1, by omega, cnu (by omega), fun s' l' h1 h2 => ?_, rfl⟩)
    by_cases e : l' = k
    · rw [e]; exact p5 s' (by omega)
    · exact q4 s' l' h1 (by omega)
  rw [if_neg (fun q => hpn ((cn_lt (by omega) (by omega)).mp q))]
  refine pk_b1 (V_chWithin hf u1 (by omega : p + k ≤ 12)) (fun v6 h6 => ?_)
  by_cases hc : 1000 * x.toInt ≤ sD f p (k + 1)
  · have ok : Sp n f (1000 * x.toInt) y (if y = 0 then cn p else cn (p + k)) := Or.inl ⟨p, k, by omega, hc, fun s' l' h1 h2 => by
      by_cases e : l' < k
      · exact absurd h2 (q4 s' l' h1 e)
      · by_cases e2 : l' = k
        · right
          refine ⟨e2.symm, ?_⟩
          by_cases e3 : s' < p
          · rw [e2] at h2
            exact absurd h2 (p5 s' e3)
          · omega
        · left; omega, rfl⟩
    rw [if_neg (fun q => by
      have z := Int32.lt_iff_toInt_lt.mp q
      rw [eT, h6] at z
      exact absurd hc (Int.not_le.mpr z))]
    by_cases hy : y = 0
    · rw [if_pos hy] at ok ⊢
      exact pk_some (show Sp n f (1000 * x.toInt) y (cn p) from ok)
    · rw [if_neg hy] at ok ⊢
      exact pk_some (show Sp n f (1000 * x.toInt) y (cn (p + k)) from ok)
  · rw [if_pos (Int32.lt_iff_toInt_lt.mpr (by rw [eT, h6]; exact Int.not_le.mp hc))]
    refine pk_some (show _ ∧ _ ∧ _ ∧ _ ∧ ∃ p', _ from ⟨rfl, rfl, rfl, rfl, p + 1, by omega, cnu (by omega), fun s' h => ?_, rfl⟩)
    by_cases e : s' = p
    · rw [e]; exact hc
    · exact p5 s' (by omega)
theorem V_longR {t : mG} {n p : Nat} {f : Nat → Int64} {x : Int32} (hf : ∀ i, 0 ≤ (f i).toInt ∧ (f i).toInt ≤ 1000000) (g2 : t.1 89 112 = cn n) (hn : n ≤ 12) (ht : ∀ i, i ≤ n → t.2 98 i = f i) (hp : p ≤ n) (hx : 0 ≤ x.toInt ∧ x.toInt ≤ 1000) : pk (F_X12_longFrom t (cn p) (cl 1000 * x.toInt64)) (fun v => (∃ l, p + l ≤ n ∧ 1000 * x.toInt ≤ sD f p (l + 1) ∧ (∀ l', l' < l → ¬ 1000 * x.toInt ≤ sD f p (l' + 1)) ∧ v = cn (l + 1)) ∨ ((∀ l', p + l' ≤ n → ¬ 1000 * x.toInt ≤ sD f p (l' + 1)) ∧ v = ci (-1))) := by
  have eT : (cl 1000 * x.toInt64).toInt = 1000 * x.toInt := l_mul (by decide : (cl 1000).toInt = 1000) (Int32.toInt_toInt64 x) (by omega) (by omega)
  unfold F_X12_longFrom F_X12_longFrom_L6
  refine pk_whl (fun v => v.1 = cn p ∧ v.2.1 = cl 1000 * x.toInt64 ∧ ∃ l, p + l ≤ n + 1 ∧ v.2.2.1.toInt = sD f p l ∧ v.2.2.2 = cn (p + l) ∧ ∀ l', l' < l → ¬ 1000 * x.toInt ≤ sD f p (l' + 1)) ⟨rfl, rfl, 0, by omega, (show (cz 0).toInt = 0 by decide), rfl, fun l' h => absurd h (by omega)⟩ (fun v hv => ?_)
  obtain ⟨x1, x2, x4, x6⟩ := v
  obtain ⟨q0o, q1o, l, hl, q2o, q3o, q4o⟩ := hv
  have q0 : x1 = cn p := q0o
  have q1 : x2 = cl 1000 * x.toInt64 := q1o
  have q2 : x4.toInt = sD f p l := q2o
  have q3 : x6 = cn (p + l) := q3o
  have q4 : ∀ l', l' < l → ¬ 1000 * x.toInt ≤ sD f p (l' + 1) := q4o
  unfold F_X12_longFrom_B6
  dsimp only
  rw [q0, q1, q3, g2]
  by_cases hln : n < p + l
  · rw [if_pos ((cn_lt (by omega) (by omega)).mpr hln)]
    exact pk_some (show (_ ∨ _) from Or.inr ⟨fun l' h => q4 l' (by omega), rfl⟩)
  rw [if_neg (fun q => hln ((cn_lt (by omega) (by omega)).mp q)), cn_nat (n := p + l) (by omega), ht (p + l) (by omega)]
  refine pk_nn ?_
  have b1' := sD_b hf p l
  have b2' := hf (p + l)
  have c : -9223372036854775808 ≤ sD f p l + (f (p + l)).toInt ∧ sD f p l + (f (p + l)).toInt < 9223372036854775808 := by
    generalize (f (p + l)).toInt = F at b2'
    generalize sD f p l = S at b1'
    exact ⟨by omega, by omega⟩
  have e3 : (x4 + f (p + l)).toInt = sD f p (l + 1) := l_add q2 rfl c.1 c.2
  by_cases hc : 1000 * x.toInt ≤ sD f p (l + 1)
  · rw [if_neg (fun q => by
      have z := Int64.lt_iff_toInt_lt.mp ((lg_cmp_lt _ _).mp q)
      rw [eT, e3] at z
      exact absurd hc (Int.not_le.mpr z)), cn_sub (a := p + l) (b := p) (by omega) (by omega), show p + l - p = l by omega]
    exact pk_some (show (_ ∨ _) from Or.inl ⟨l, by omega, hc, q4, cnu (by omega)⟩)
  · rw [if_pos ((lg_cmp_lt _ _).mpr (Int64.lt_iff_toInt_lt.mpr (by rw [eT, e3]; exact Int.not_le.mp hc)))]
    refine pk_some (show _ ∧ _ ∧ ∃ l', _ from ⟨rfl, rfl, l + 1, by omega, e3, cnu (by omega), fun l' h => ?_⟩)
    by_cases e : l' = l
    · rw [e]; exact hc
    · exact q4 l' (by omega)
/-- the best up to here -/
def Bp (n p : Nat) (f : Nat → Int64) (T : Int) (x3 x4 : Int32) : Prop := (∃ s l, s < p ∧ s + l ≤ n ∧ T ≤ sD f s (l + 1) ∧ (∀ s' l', s' < p → s' + l' ≤ n → T ≤ sD f s' (l' + 1) → l < l' ∨ (l = l' ∧ s ≤ s')) ∧ x3 = cn (l + 1) ∧ x4 = cn s) ∨ ((∀ s' l', s' < p → s' + l' ≤ n → ¬ T ≤ sD f s' (l' + 1)) ∧ x3 = ci (-1) ∧ x4 = ci (-1))
theorem V_spanR {t : mG} {n : Nat} {f : Nat → Int64} {x y : Int32} (hf : ∀ i, 0 ≤ (f i).toInt ∧ (f i).toInt ≤ 1000000) (g2 : t.1 89 112 = cn n) (hn : n ≤ 12) (ht : ∀ i, i ≤ n → t.2 98 i = f i) (hx : 0 ≤ x.toInt ∧ x.toInt ≤ 1000) : pk (F_X12_span_L34 x y (ci (-1)) (ci (-1)) (ci 0) t) (fun τ => Sp n f (1000 * x.toInt) y τ.1) := by
  unfold F_X12_span_L34
  refine pk_whl (fun v => v.1 = x ∧ v.2.1 = y ∧ ∃ p, p ≤ n + 1 ∧ v.2.2.2.2.1 = cn p ∧ Bp n p f (1000 * x.toInt) v.2.2.1 v.2.2.2.1 ∧ v.2.2.2.2.2 = t) ⟨rfl, rfl, 0, Nat.zero_le _, rfl, Or.inr ⟨fun s' l' h => absurd h (by omega), rfl, rfl⟩, rfl⟩ (fun v hv => ?_)
  obtain ⟨x1, x2, x3, x4, x5, s⟩ := v
  obtain ⟨q0o, q1o, p, hp, q2o, q3o, q4o⟩ := hv
  have q0 : x1 = x := q0o
  have q1 : x2 = y := q1o
  have q2 : x5 = cn p := q2o
  have q3 : Bp n p f (1000 * x.toInt) x3 x4 := q3o
  have q4 : s = t := q4o
  unfold F_X12_span_B34 F_X12_span_80 F_X12_span_87 F_X12_span_103
  dsimp only
  rw [q0, q1, q2, q4, g2]
  by_cases hpn : n < p
  · rw [if_pos ((cn_lt (by omega) (by omega)).mpr hpn)]
    rcases q3 with ⟨z, l, h1, h2, h3, h4, h5, h6⟩ | ⟨h1, h2, h3⟩
    · rw [if_neg (show ¬ x4 = ci (-1) by rw [h6]; exact cn_ne1 (by omega))]
      have ok : Sp n f (1000 * x.toInt) y (if y = 0 then cn z else cn (z + l)) := Or.inl ⟨z, l, h2, h3, fun s' l' k1 k2 => h4 s' l' (by omega) k1 k2, rfl⟩
      by_cases hy : y = 0
      · rw [if_pos hy] at ok ⊢
        rw [b1_some]
        exact pk_some (show Sp n f (1000 * x.toInt) y x4 from by rw [h6]; exact ok)
      · rw [if_neg hy] at ok ⊢
        refine pk_some (show Sp n f (1000 * x.toInt) y ((x4 + x3) - ci 1) from ?_)
        rw [h6, h5, cn_add (a := z) (b := l + 1) (by omega), show cn (z + (l + 1)) - ci 1 = cn (z + (l + 1) - 1) from cn_sub (b := 1) (by omega) (by omega), show z + (l + 1) - 1 = z + l by omega]
        exact ok
    · rw [if_pos h3, b1_some]
      exact pk_some (show Sp n f (1000 * x.toInt) y x4 from by rw [h3]; exact Or.inr ⟨fun s' l' k1 => h1 s' l' (by omega) k1, rfl⟩)
  rw [if_neg (fun q => hpn ((cn_lt (by omega) (by omega)).mp q))]
  refine pk_b1 (V_longR hf g2 hn ht (by omega : p ≤ n) hx) (fun v13 h13 => ?_)
  have nx : ∀ z3 z4, Bp n (p + 1) f (1000 * x.toInt) z3 z4 → pk (some (Sum.inl (x, y, z3, z4, cn p + ci 1, t)) : Option ((Int32 × Int32 × Int32 × Int32 × Int32 × mG) ⊕ (Int32 × mG))) (se (fun v : Int32 × Int32 × Int32 × Int32 × Int32 × mG => v.1 = x ∧ v.2.1 = y ∧ ∃ p, p ≤ n + 1 ∧ v.2.2.2.2.1 = cn p ∧ Bp n p f (1000 * x.toInt) v.2.2.1 v.2.2.2.1 ∧ v.2.2.2.2.2 = t) (fun τ : Int32 × mG => Sp n f (1000 * x.toInt) y τ.1)) := fun z3 z4 hz => pk_some (show _ ∧ _ ∧ ∃ p', _ from ⟨rfl, rfl, p + 1, by omega, cnu (by omega), hz, rfl⟩)
  rcases h13 with ⟨l, h1, h2, h3, h4⟩ | ⟨h1, h2⟩
  · rw [if_neg (show ¬ v13 = ci (-1) by rw [h4]; exact cn_ne1 (by omega))]
    rcases q3 with ⟨z, l0, k1, k2, k3, k4, k5, k6⟩ | ⟨k1, k2, k3⟩
    · rw [if_neg (show ¬ x3 = ci (-1) by rw [k5]; exact cn_ne1 (by omega))]
      by_cases hl : l < l0
      · rw [if_pos (show v13 < x3 by rw [h4, k5]; exact (cn_lt (by omega) (by omega)).mpr (by omega))]
        refine nx _ _ (Or.inl ⟨p, l, by omega, h1, h2, fun s' l' e1 e2 e3 => ?_, h4, rfl⟩)
        by_cases e : s' = p
        · rw [e] at e3
          by_cases f1 : l' < l
          · exact absurd e3 (h3 l' f1)
          · omega
        · have := k4 s' l' (by omega) e2 e3
          omega
      · rw [if_neg (show ¬ v13 < x3 by rw [h4, k5]; exact fun q => hl (by have := (cn_lt (by omega) (by omega)).mp q; omega))]
        refine nx _ _ (Or.inl ⟨z, l0, by omega, k2, k3, fun s' l' e1 e2 e3 => ?_, k5, k6⟩)
        by_cases e : s' = p
        · rw [e] at e3
          by_cases f1 : l' < l
          · exact absurd e3 (h3 l' f1)
          · omega
        · exact k4 s' l' (by omega) e2 e3
    · rw [if_pos k2]
      refine nx _ _ (Or.inl ⟨p, l, by omega, h1, h2, fun s' l' e1 e2 e3 => ?_, h4, rfl⟩)
      by_cases e : s' = p
      · rw [e] at e3
        by_cases f1 : l' < l
        · exact absurd e3 (h3 l' f1)
        · omega
      · exact absurd e3 (k1 s' l' (by omega) e2)
  · rw [if_pos h2]
    refine nx _ _ ?_
    rcases q3 with ⟨z, l0, k1, k2, k3, k4, k5, k6⟩ | ⟨k1, k2, k3⟩
    · refine Or.inl ⟨z, l0, by omega, k2, k3, fun s' l' e1 e2 e3 => ?_, k5, k6⟩
      by_cases e : s' = p
      · rw [e] at e2 e3
        exact absurd e3 (h1 l' e2)
      · exact k4 s' l' (by omega) e2 e3
    · refine Or.inr ⟨fun s' l' e1 e2 => ?_, k2, k3⟩
      by_cases e : s' = p
      · rw [e] at e2 ⊢
        exact h1 l' e2
      · exact k1 s' l' (by omega) e2
theorem R_span {a b : mG} {x y : Int32} (hI : IM b) (h : SIM a b) : rel (F_X11_span x y a) (F_X12_span x y b) (fun τ υ => τ.1 = υ.1) := by
  obtain ⟨n, nc, m, K, g2, V, hm, h3, hw⟩ := SIM_S h
  have hn := K.2.2.1
  unfold F_X11_span F_X12_span F_X11_span_20 F_X12_span_20 F_X11_span_37
  rw [V_within, F_isIn, b1_some, b1_some]
  refine rel_ifs Iff.rfl (fun _ => rel_some rfl) (fun hx => ?_)
  have hx2 := wi_f hx
  rw [show (ci 0).toInt = 0 by decide, show (c16 1000).toInt = 1000 by decide] at hx2
  rw [V_within, F_isIn, b1_some, b1_some]
  refine rel_ifs Iff.rfl (fun _ => rel_some rfl) (fun hy => ?_)
  refine rel_r1 (V_laysC K.2.2.2.2 g2 hn hw hm (fun _ _ _ => rfl)) (fun t qt => ?_)
  obtain ⟨t1, t2⟩ := qt
  have R := V_spanR (y := y) (dN_r hI hw hm n) (by rw [t2 89 (by decide) (by decide)]; exact g2) hn t1 hx2
  obtain ⟨c, hc, ey⟩ := wi_cn (l := 1) (by omega) hy
  rcases (show c = 0 ∨ c = 1 by omega) with e | e <;> rw [e] at ey
  · rw [if_neg (show ¬ y = ci 1 by rw [ey]; decide)]
    refine rel_l2 (V_edgeC (y := ci 0) hI K h3 hw hm hx2) (fun v s q => ?_)
    exact rel_sp R (fun v' qv => show v = v'.1 from Sp_u q (by rw [show y = ci 0 from ey] at qv; exact qv))
  · rw [if_pos (show y = ci 1 from ey)]
    refine rel_l2 (V_edgeC (y := ci 1) hI K h3 hw hm hx2) (fun v s q => ?_)
    exact rel_sp R (fun v' qv => show v = v'.1 from Sp_u q (by rw [show y = ci 1 from ey] at qv; exact qv))
end
