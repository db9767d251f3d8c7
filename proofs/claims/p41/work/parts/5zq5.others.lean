noncomputable section
/-! ONE AMONG HOW MANY -/
/-- the reference's row stands one place further -/
def oN (w : Nat → Int32) (m g k i : Nat) : Int64 := if i = 0 then cz 0 else dN w m g k (i - 1)
theorem oN_s {b : mG} {m g k i : Nat} (hI : IM b) (hw : b.1 89 115 = cn m) (hm : m ≤ 6) (hk : k ≠ g) : (oN (b.1 89) m g k (i + 1) * (cl 1000000 - sureN (b.1 89) m k)) / cl 1000000 + (oN (b.1 89) m g k i * sureN (b.1 89) m k) / cl 1000000 = oN (b.1 89) m g (k + 1) (i + 1) := by
  unfold oN
  rw [if_neg (by omega : ¬ i + 1 = 0), if_neg (by omega : ¬ i + 1 = 0), show i + 1 - 1 = i by omega, dN_s hk]
  by_cases e : i = 0
  · rw [if_pos e, if_pos e, sh_z (sureN_r hI hw hm)]
  · rw [if_neg e, if_neg e]
theorem V_oneO {b s : mG} {m g k : Nat} (hI : IM b) (hw : b.1 89 115 = cn m) (hm : m ≤ 6) (hk : k < 12) (hkg : k ≠ g) (h : ∀ i, i < 14 → s.2 99 i = oN (b.1 89) m g k i) : pk (F_X12_laysOthers_L63 (cn g) (cn k) (sureN (b.1 89) m k) (c8 13) s) (se (fun τ : Int32 × Int32 × mG => τ.1 = cn g ∧ τ.2.1 = cn (k + 1) ∧ (∀ i, i < 14 → τ.2.2.2 99 i = oN (b.1 89) m g (k + 1) i) ∧ τ.2.2.1 = s.1) (fun _ : mG => False)) := by
  unfold F_X12_laysOthers_L63
  refine pk_whl (fun v => v.1 = cn g ∧ v.2.1 = cn k ∧ v.2.2.1 = sureN (b.1 89) m k ∧ ∃ p, p ≤ 13 ∧ v.2.2.2.1 = cn p ∧ (∀ i, i < 14 → v.2.2.2.2.2 99 i = oN (b.1 89) m g (if p + 1 ≤ i then k + 1 else k) i) ∧ v.2.2.2.2.1 = s.1) ⟨rfl, rfl, rfl, 13, by omega, (show c8 13 = cn 13 by decide), fun i hi => by rw [if_neg (by omega)]; exact h i hi, rfl⟩ (fun v hv => ?_)
  obtain ⟨x1, x2, x3, x5, t⟩ := v
  obtain ⟨q0o, q1o, q2o, p, hp, q3o, q4o, ro⟩ := hv
  have q0 : x1 = cn g := q0o
  have q1 : x2 = cn k := q1o
  have q2 : x3 = sureN (b.1 89) m k := q2o
  have q3 : x5 = cn p := q3o
  have q4 : ∀ i, i < 14 → t.2 99 i = oN (b.1 89) m g (if p + 1 ≤ i then k + 1 else k) i := q4o
  have r : t.1 = s.1 := ro
  unfold F_X12_laysOthers_B63 F_X12_laysOthers_115
  dsimp only
  rw [q0, q1, q2, q3]
  by_cases hp0 : p = 0
  · subst hp0
    rw [if_pos (show cn 0 < ci 1 by decide)]
    refine pk_b1r (pk_some (show _ ∧ _ ∧ _ ∧ _ from ⟨rfl, cnu (by omega), fun i hi => ?_, r⟩))
    show t.2 99 i = _
    rw [q4 i hi]
    by_cases e : i = 0
    · rw [if_neg (by omega), e]; rfl
    · rw [if_pos (by omega)]
  obtain ⟨d, rfl⟩ : ∃ d, p = d + 1 := ⟨p - 1, by omega⟩
  have S1 := q4 (d + 1) (by omega)
  have S2 := q4 d (by omega)
  rw [if_neg (by omega)] at S1 S2
  rw [if_neg (show ¬ cn (d + 1) < ci 1 from fun q => by have := (cn_lt (b := 1) (by omega) (by omega)).mp q; omega), show cn (d + 1) - ci 1 = cn d from (cn_sub (b := 1) (by omega) (by omega)), cn_nat (n := d + 1) (by omega), cn_nat (n := d) (by omega), S1, S2, oN_s hI hw hm hkg]
  refine pk_nn (pk_nn (pk_nn (pk_some (show _ ∧ _ ∧ _ ∧ ∃ p', _ from ⟨rfl, rfl, rfl, d, by omega, ?_, fun i hi => ?_, r⟩))))
  · show cn (d + 1) + ci (-1) = cn d
    rw [← cnu (by omega), Int32.add_assoc]
    exact (congrArg (cn d + ·) (by decide : ci 1 + ci (-1) = 0)).trans (Int32.add_zero _)
  · show muL t.2 99 (d + 1) _ 99 i = _
    by_cases f : i = d + 1
    · rw [f, muL_same, if_pos (Nat.le_refl _)]
    · rw [muL_cell (Or.inr f)]
      have := q4 i hi
      by_cases e : d + 1 + 1 ≤ i
      · rw [if_pos e] at this
        rw [if_pos (by omega)]; exact this
      · rw [if_neg e] at this
        rw [if_neg (by omega)]; exact this
theorem V_laysO {b : mG} {n nc m g : Nat} (hI : IM b) (L : LTy nc (b.1 89)) (g2 : b.1 89 112 = cn n) (hn : n ≤ 12) (hw : b.1 89 115 = cn m) (hm : m ≤ 6) (hg : g < n) : pk (F_X12_laysOthers (cn g) b) (fun t => (∀ i, i < 14 → t.2 99 i = oN (b.1 89) m g n i) ∧ ∀ j, j ≠ 96 → j ≠ 97 → t.1 j = b.1 j) := by
  unfold F_X12_laysOthers F_X12_laysOthers_L2
  refine pk_whl (fun v => v.1 = cn g ∧ ∃ k, k ≤ 14 ∧ v.2.1 = cn k ∧ (∀ i, i < k → v.2.2.2 99 i = oN (b.1 89) m g 0 i) ∧ ∀ j, j ≠ 96 → j ≠ 97 → v.2.2.1 j = b.1 j) ⟨rfl, 0, Nat.zero_le _, rfl, fun i hi => absurd hi (by omega), fun _ _ _ => rfl⟩ (fun v hv => ?_)
  obtain ⟨x1, x2, s⟩ := v
  obtain ⟨q0o, k, hk, q1o, q2o, ro⟩ := hv
  have q0 : x1 = cn g := q0o
  have q1 : x2 = cn k := q1o
  have q2 : ∀ i, i < k → s.2 99 i = oN (b.1 89) m g 0 i := q2o
  have r : ∀ j, j ≠ 96 → j ≠ 97 → s.1 j = b.1 j := ro
  unfold F_X12_laysOthers_B2 F_X12_laysOthers_25
  dsimp only
  rw [q0, q1]
  by_cases hkn : 14 ≤ k
  · rw [if_pos (show c8 14 ≤ cn k from (cn_le (a := 14) (by omega) (by omega)).mpr hkn)]
    refine pk_b1r ?_
    unfold F_X12_laysOthers_L34
    refine pk_whl (fun v => v.1 = cn g ∧ ∃ k, k ≤ n ∧ v.2.1 = cn k ∧ (∀ i, i < 14 → v.2.2.2 99 i = oN (b.1 89) m g k i) ∧ ∀ j, j ≠ 96 → j ≠ 97 → v.2.2.1 j = b.1 j) ⟨rfl, 0, Nat.zero_le _, rfl, fun i hi => q2 i (by omega), r⟩ (fun v hv => ?_)
    obtain ⟨y1, y2, t⟩ := v
    obtain ⟨p0o, p, hp, p1o, p2o, rto⟩ := hv
    have p0 : y1 = cn g := p0o
    have p1 : y2 = cn p := p1o
    have p2 : ∀ i, i < 14 → t.2 99 i = oN (b.1 89) m g p i := p2o
    have rt : ∀ j, j ≠ 96 → j ≠ 97 → t.1 j = b.1 j := rto
    have e89 : t.1 89 = b.1 89 := rt 89 (by decide) (by decide)
    unfold F_X12_laysOthers_B34 F_X12_laysOthers_115
    dsimp only
    rw [p0, p1, e89, g2]
    by_cases hpn : n ≤ p
    · have ep : p = n := by omega
      rw [if_pos ((cn_le (by omega) (by omega)).mpr hpn)]
      rw [ep] at p2
      exact pk_some (show (∀ i, i < 14 → t.2 99 i = _) ∧ _ from ⟨p2, rt⟩)
    rw [if_neg (fun q => hpn ((cn_le (by omega) (by omega)).mp q))]
    by_cases hpg : p = g
    · rw [if_pos (show cn p = cn g by rw [hpg])]
      refine pk_some (show _ ∧ ∃ k', _ from ⟨rfl, p + 1, by omega, cnu (by omega), fun i hi => ?_, rt⟩)
      show t.2 99 i = _
      rw [p2 i hi]
      unfold oN
      by_cases e : i = 0
      · rw [if_pos e, if_pos e]
      · rw [if_neg e, if_neg e, dN_k hpg]
    rw [if_neg (fun q => hpg ((cn_inj (by omega) (by omega)).mp q))]
    refine pk_b2 (V_sureS L hn (by omega : p < n) hw hm e89) (fun v5 s4 qt => ?_)
    obtain ⟨t1o, t2o, t3o⟩ := qt
    have t1 : v5 = sureN (b.1 89) m p := t1o
    have t2 : ∀ j, j ≠ 96 → j ≠ 97 → s4.1 j = t.1 j := t2o
    have t3 : s4.2 = t.2 := t3o
    rw [t1]
    intro o ho
    have q := V_oneO (b := b) (s := s4) (m := m) (g := g) (k := p) hI hw hm (by omega) hpg (fun i hi => by rw [t3]; exact p2 i hi) o ho
    cases o with
    | inl v =>
      obtain ⟨z0, z1, z2, z3⟩ := (show _ ∧ _ ∧ _ ∧ _ from q)
      exact (show _ ∧ ∃ k', _ from ⟨z0, p + 1, by omega, z1, z2, fun j h1 h2 => by rw [z3]; exact (t2 j h1 h2).trans (rt j h1 h2)⟩)
    | inr v => exact (show False from q).elim
  rw [if_neg (show ¬ c8 14 ≤ cn k from fun q => hkn ((cn_le (a := 14) (by omega) (by omega)).mp q)), cn_nat (n := k) (by omega)]
  have fin : ∀ y : Int64, y = oN (b.1 89) m g 0 k → pk (if cn k < 0 ∨ 14 ≤ k then none else some (Sum.inl (cn g, cn k + ci 1, ((s.1, muL s.2 99 k y) : mG)))) (se (fun v : Int32 × Int32 × mG => v.1 = cn g ∧ ∃ k, k ≤ 14 ∧ v.2.1 = cn k ∧ (∀ i, i < k → v.2.2.2 99 i = oN (b.1 89) m g 0 i) ∧ ∀ j, j ≠ 96 → j ≠ 97 → v.2.2.1 j = b.1 j) (fun t : mG => (∀ i, i < 14 → t.2 99 i = oN (b.1 89) m g n i) ∧ ∀ j, j ≠ 96 → j ≠ 97 → t.1 j = b.1 j)) := fun y hy => by
    refine pk_nn (pk_some (show _ ∧ ∃ k', _ from ⟨rfl, k + 1, by omega, cnu (by omega), fun i hi => ?_, r⟩))
    show muL s.2 99 k y 99 i = _
    by_cases f : i = k
    · rw [f, muL_same]; exact hy
    · rw [muL_cell (Or.inr f)]
      exact q2 i (by omega)
  by_cases k0 : k = 1
  · rw [if_pos (show cn k = ci 1 by rw [k0]; rfl)]
    exact fin (cl 1000000) (by unfold oN; rw [k0, if_neg (by decide), dN_0, if_pos (by decide)])
  · rw [if_neg (show ¬ cn k = ci 1 from fun q => k0 ((cn_inj (b := 1) (by omega) (by omega)).mp q))]
    refine fin (cz 0) ?_
    unfold oN
    by_cases e : k = 0
    · rw [if_pos e]
    · rw [if_neg e, dN_0, if_neg (by omega)]
theorem R_counted {a b : mG} {x y : Int32} (hI : IM b) (h : SIM a b) : rel (F_X11_counted x y a) (F_X12_counted x y b) (fun τ υ => τ.1 = υ.1) := by
  obtain ⟨n, nc, m, K, g2, V, hm, h3, hw⟩ := SIM_S h
  have hn := K.2.2.1
  unfold F_X11_counted F_X12_counted F_X11_counted_21 F_X12_counted_18
  rw [V_isGuest, V_isGuestR g2 hn, b1_some, b1_some, show a.1 (1 + 1) 3 = cn n from K.2.1]
  refine rel_ifs Iff.rfl (fun _ => rel_some rfl) (fun hx => ?_)
  obtain ⟨g, hg, ex⟩ := ig_cn (by omega) hx
  rw [V_within, F_isIn, b1_some, b1_some]
  refine rel_ifs Iff.rfl (fun _ => rel_some rfl) (fun hy => ?_)
  obtain ⟨c, hc, ey⟩ := wi_cn (l := 12) (by omega) hy
  rw [ex, ey]
  refine rel_l2 (x := F_X0_amongCounted (cn g) (cn c) a) (P := fun τ => τ.1 = (if (lg_cmp (sureN (b.1 89) m g * oN (b.1 89) m g n c + (cl 1000000 - sureN (b.1 89) m g) * oN (b.1 89) m g n (c + 1)) (cz 0)) = 0 then ci (-1) else ((cl 1000000 * (sureN (b.1 89) m g * oN (b.1 89) m g n c)) / (sureN (b.1 89) m g * oN (b.1 89) m g n c + (cl 1000000 - sureN (b.1 89) m g) * oN (b.1 89) m g n (c + 1))).toInt32)) ?_ (fun v s q => ?_)
  · unfold F_X0_amongCounted
    refine pk_b1 (V_countC (sk := g) hI K h3 hw hm (fun k hk => cn_inj (by omega) (by omega))) (fun u qu => ?_)
    obtain ⟨u1, u0, u2⟩ := qu
    rw [V_cellJ (j := 76) (k := g) sh76 (by omega) (by decide), b1_some]
    have s0 := (u0 g hg).1
    have s1 : (u.1 75 c).toInt64 = oN (b.1 89) m g n (c + 1) := by
      unfold oN
      rw [if_neg (by omega), show c + 1 - 1 = c by omega]
      exact (u1 c (by omega)).1.symm
    have fin : ∀ v6 : Int32, v6.toInt64 = oN (b.1 89) m g n c → pk (b1 (F_X11_cell 75 u (cn c)) fun v9 => if (lg_cmp ((u.1 76 g).toInt64 * v6.toInt64 + ((cl 1000000) - (u.1 76 g).toInt64) * v9.toInt64) (cz 0)) = 0 then some ((ci (-1)), u) else if ((u.1 76 g).toInt64 * v6.toInt64 + ((cl 1000000) - (u.1 76 g).toInt64) * v9.toInt64) = 0 then none else some ((((cl 1000000) * ((u.1 76 g).toInt64 * v6.toInt64)) / ((u.1 76 g).toInt64 * v6.toInt64 + ((cl 1000000) - (u.1 76 g).toInt64) * v9.toInt64)).toInt32, u)) (fun τ : Int32 × mG => τ.1 = (if (lg_cmp (sureN (b.1 89) m g * oN (b.1 89) m g n c + (cl 1000000 - sureN (b.1 89) m g) * oN (b.1 89) m g n (c + 1)) (cz 0)) = 0 then ci (-1) else ((cl 1000000 * (sureN (b.1 89) m g * oN (b.1 89) m g n c)) / (sureN (b.1 89) m g * oN (b.1 89) m g n c + (cl 1000000 - sureN (b.1 89) m g) * oN (b.1 89) m g n (c + 1))).toInt32)) := fun v6 h6 => by
      rw [V_cellJ (j := 75) (k := c) sh75 (by omega) (by decide), b1_some, h6, s1, ← s0]
      by_cases z : (lg_cmp (sureN (b.1 89) m g * oN (b.1 89) m g n c + (cl 1000000 - sureN (b.1 89) m g) * oN (b.1 89) m g n (c + 1)) (cz 0)) = 0
      · rw [if_pos z, if_pos z]
        exact pk_some rfl
      · rw [if_neg z, if_neg z]
        exact pk_nn (pk_some rfl)
    by_cases c0 : c = 0
    · rw [V_cell_neg (show cn c - ci 1 < 0 by rw [c0]; decide), b1_some]
      exact fin (ci 0) (by unfold oN; rw [if_pos c0]; decide)
    · rw [show cn c - ci 1 = cn (c - 1) from cn_sub (b := 1) (by omega) (by omega), V_cellJ (j := 75) (k := c - 1) sh75 (by omega) (by decide), b1_some]
      exact fin _ (by unfold oN; rw [if_neg c0]; exact (u1 (c - 1) (by omega)).1.symm)
  · refine rel_r1 (V_laysO hI K.2.2.2.2 g2 hn hw hm hg) (fun t qt => ?_)
    obtain ⟨t1, t2⟩ := qt
    refine rel_r2 (V_sureS K.2.2.2.2 hn hg hw hm (t2 89 (by decide) (by decide))) (fun v11 s10 qs => ?_)
    obtain ⟨z1o, _, z3o⟩ := qs
    have z1 : v11 = sureN (b.1 89) m g := z1o
    have z3 : s10.2 = t.2 := z3o
    rw [show cn c + ci 1 = cn (c + 1) from cnu (by omega), cn_nat (n := c) (by omega), cn_nat (n := c + 1) (by omega), z3, t1 c (by omega), t1 (c + 1) (by omega), z1]
    have q : v = _ := q
    refine rel_rg ?_
    dsimp only
    refine rel_rg ?_
    by_cases z : (lg_cmp (sureN (b.1 89) m g * oN (b.1 89) m g n c + (cl 1000000 - sureN (b.1 89) m g) * oN (b.1 89) m g n (c + 1)) (cz 0)) = 0
    · rw [if_pos z] at q
      rw [if_pos z]
      exact rel_some q
    · rw [if_neg z] at q
      rw [if_neg z]
      exact rel_rg (rel_some q)
end
