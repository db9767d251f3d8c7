noncomputable section
theorem V_guestsC {b u : mG} {n nc m sk : Nat} {e : Int32} (hI : IM b) (Ku : HK (b.1 89) n nc u) (hw : b.1 89 115 = cn m) (hm : m ≤ 6) (he : ∀ k, k < n → (cn k = e ↔ k = sk)) (u1 : ∀ g, g < n → Su (u.1 76 g) (sureN (b.1 89) m g)) {z : mG} (hz1 : ∀ i, i < 13 → Su (z.1 75 i) (dN (b.1 89) m sk 0 i)) (hz2 : ∀ j, j ≠ 75 → z.1 j = u.1 j) : pk (F_X0_countChances_L39 e (ci 0) z) (fun t => (∀ i, i < 13 → Su (t.1 75 i) (dN (b.1 89) m sk n i)) ∧ ∀ j, j ≠ 75 → t.1 j = u.1 j) := by
  have hn := Ku.2.2.1
  unfold F_X0_countChances_L39
  refine pk_whl (fun v => v.1 = e ∧ ∃ k, k ≤ n ∧ v.2.1 = cn k ∧ (∀ i, i < 13 → Su (v.2.2.1 75 i) (dN (b.1 89) m sk k i)) ∧ ∀ j, j ≠ 75 → v.2.2.1 j = u.1 j) ⟨rfl, 0, Nat.zero_le _, rfl, hz1, hz2⟩ (fun v hv => ?_)
  obtain ⟨x1, x2, s⟩ := v
  obtain ⟨q0o, k, hk, q1o, q2o, ro⟩ := hv
  have q0 : x1 = e := q0o
  have q1 : x2 = cn k := q1o
  have q2 : ∀ i, i < 13 → Su (s.1 75 i) (dN (b.1 89) m sk k i) := q2o
  have r : ∀ j, j ≠ 75 → s.1 j = u.1 j := ro
  unfold F_X0_countChances_B39 F_X0_countChances_70
  dsimp only
  rw [q0, q1, r 2 (by decide), Ku.2.1]
  by_cases hkn : n ≤ k
  · have ek : k = n := by omega
    rw [if_pos ((cn_le (by omega) (by omega)).mpr hkn)]
    rw [ek] at q2
    exact pk_some (show (∀ i, i < 13 → Su (s.1 75 i) _) ∧ _ from ⟨q2, r⟩)
  rw [if_neg (fun q => hkn ((cn_le (by omega) (by omega)).mp q))]
  by_cases hs : k = sk
  · rw [if_pos ((he k (by omega)).mpr hs)]
    exact pk_some (show _ ∧ ∃ k', _ from ⟨rfl, k + 1, by omega, cnu (by omega), fun i hi => by rw [dN_k hs]; exact q2 i hi, r⟩)
  · rw [if_neg (fun q => hs ((he k (by omega)).mp q)), V_cellJ (j := 76) (k := k) sh76 (by omega) (by decide), b1_some, r 76 (by decide)]
    refine pk_b1 (V_oneC hI hw hm hs (u1 k (by omega)) q2) (fun t qt => ?_)
    obtain ⟨t1, t2⟩ := qt
    exact pk_some (show _ ∧ ∃ k', _ from ⟨rfl, k + 1, by omega, cnu (by omega), t1, fun j hj => (t2 j hj).trans (r j hj)⟩)
theorem V_countC {a b : mG} {n nc m sk : Nat} {e : Int32} (hI : IM b) (K : HK (b.1 89) n nc a) (h3 : a.1 10 3 = cn m) (hw : b.1 89 115 = cn m) (hm : m ≤ 6) (he : ∀ k, k < n → (cn k = e ↔ k = sk)) : pk (F_X0_countChances e a) (fun u => (∀ i, i < 13 → Su (u.1 75 i) (dN (b.1 89) m sk n i)) ∧ (∀ g, g < n → Su (u.1 76 g) (sureN (b.1 89) m g)) ∧ ∀ j, j ≠ 69 → j ≠ 70 → j ≠ 74 → j ≠ 75 → j ≠ 76 → u.1 j = a.1 j) := by
  unfold F_X0_countChances
  refine pk_b1 (V_weigh hI K h3 hm) (fun u qu => ?_)
  obtain ⟨u1, u2⟩ := qu
  have Ku : HK (b.1 89) n nc u := HK_low K (fun j h1 h2 => u2 j (by omega) (by omega) (by omega) (by omega))
  unfold F_X0_countChances_L6
  refine pk_whl (fun v => v.1 = e ∧ ∃ k, k ≤ 13 ∧ v.2.1 = cn k ∧ (∀ i, i < k → Su (v.2.2.1 75 i) (dN (b.1 89) m sk 0 i)) ∧ ∀ j, j ≠ 75 → v.2.2.1 j = u.1 j) ⟨rfl, 0, Nat.zero_le _, rfl, fun i hi => absurd hi (by omega), fun _ _ => rfl⟩ (fun v hv => ?_)
  obtain ⟨x1, x2, s⟩ := v
  obtain ⟨q0o, k, hk, q1o, q2o, ro⟩ := hv
  have q0 : x1 = e := q0o
  have q1 : x2 = cn k := q1o
  have q2 : ∀ i, i < k → Su (s.1 75 i) (dN (b.1 89) m sk 0 i) := q2o
  have r : ∀ j, j ≠ 75 → s.1 j = u.1 j := ro
  unfold F_X0_countChances_B6 F_X0_countChances_30
  dsimp only
  rw [q0, q1]
  by_cases hk13 : 13 ≤ k
  · rw [if_pos ((cn_le (by omega) (by omega)).mpr hk13)]
    refine pk_b1r (fun t ht => ?_)
    have q := V_guestsC hI Ku hw hm he u1 (fun i hi => q2 i (by omega)) r t ht
    exact ⟨q.1, fun g hg => by rw [q.2 76 (by decide)]; exact u1 g hg, fun j h1 h2 h3 h4 h5 => (q.2 j h4).trans (u2 j h1 h2 h3 h5)⟩
  rw [if_neg (fun q => hk13 ((cn_le (by omega) (by omega)).mp q)), cn_nat (n := k) (by omega)]
  have fin : ∀ y : Int32, Su y (dN (b.1 89) m sk 0 k) → pk (if cn k < 0 ∨ 13 ≤ k then none else some (Sum.inl (e, cn k + ci 1, ((mu s.1 75 k y, s.2) : mG)))) (se (fun v : Int32 × Int32 × mG => v.1 = e ∧ ∃ k, k ≤ 13 ∧ v.2.1 = cn k ∧ (∀ i, i < k → Su (v.2.2.1 75 i) (dN (b.1 89) m sk 0 i)) ∧ ∀ j, j ≠ 75 → v.2.2.1 j = u.1 j) (fun u : mG => (∀ i, i < 13 → Su (u.1 75 i) (dN (b.1 89) m sk n i)) ∧ (∀ g, g < n → Su (u.1 76 g) (sureN (b.1 89) m g)) ∧ ∀ j, j ≠ 69 → j ≠ 70 → j ≠ 74 → j ≠ 75 → j ≠ 76 → u.1 j = a.1 j)) := fun y hy => by
    refine pk_nn (pk_some (show _ ∧ ∃ k', _ from ⟨rfl, k + 1, by omega, cnu (by omega), fun i hi => ?_, fun j hj => ?_⟩))
    · show Su (mu s.1 75 k y 75 i) _
      by_cases f : i = k
      · rw [f, mu_same]; exact hy
      · rw [mu_cell (Or.inr f)]
        exact q2 i (by omega)
    · show mu s.1 75 k y j = u.1 j
      exact (mu_row hj).trans (r j hj)
  by_cases k0 : k = 0
  · rw [if_pos (show cn k = 0 by rw [k0]; rfl)]
    exact fin (ci 1000000) (by rw [dN_0, if_pos k0]; exact Su_m)
  · rw [if_neg (show ¬ cn k = 0 from cn_ne0 (by omega) k0)]
    exact fin (ci 0) (by rw [dN_0, if_neg k0]; exact Su_z)
theorem muL_ap {D : Nat → Nat → Int64} {i k j l : Nat} {v : Int64} : muL D i k v j l = if j = i ∧ l = k then v else D j l := by
  unfold muL
  by_cases h : j = i
  · by_cases k' : l = k
    · rw [if_pos h, if_pos k', if_pos ⟨h, k'⟩]
    · rw [if_pos h, if_neg k', if_neg (fun q => k' q.2)]
  · rw [if_neg h, if_neg (fun q => h q.1)]
theorem muL_same {D : Nat → Nat → Int64} {i k : Nat} {v : Int64} : muL D i k v i k = v := by rw [muL_ap, if_pos ⟨rfl, rfl⟩]
theorem muL_cell {D : Nat → Nat → Int64} {i k j l : Nat} {v : Int64} (h : j ≠ i ∨ l ≠ k) : muL D i k v j l = D j l := by
  rw [muL_ap, if_neg (fun q => h.elim (fun e => e q.1) (fun e => e q.2))]
/-- the reference takes one guest in -/
theorem V_oneR {b s : mG} {n m k : Nat} (g2 : s.1 89 112 = cn n) (hn : n ≤ 12) (hk : k < 12) (h : ∀ i, i ≤ n → s.2 98 i = dN (b.1 89) m 12 k i) : pk (F_X12_laysChances_L64 (cn k) (sureN (b.1 89) m k) (s.1 89 112) s) (se (fun τ : Int32 × mG => τ.1 = cn (k + 1) ∧ (∀ i, i ≤ n → τ.2.2 98 i = dN (b.1 89) m 12 (k + 1) i) ∧ τ.2.1 = s.1) (fun _ : mG => False)) := by
  unfold F_X12_laysChances_L64
  rw [g2, show cn n = cn (n + 1) + ci (-1) by rw [← cnu (by omega), Int32.add_assoc]; exact ((congrArg (cn n + ·) (by decide : ci 1 + ci (-1) = 0)).trans (Int32.add_zero _)).symm]
  refine pk_whl (fun v => v.1 = cn k ∧ v.2.1 = sureN (b.1 89) m k ∧ ∃ p, p ≤ n + 1 ∧ v.2.2.1 = cn p + ci (-1) ∧ (∀ i, i ≤ n → v.2.2.2.2 98 i = dN (b.1 89) m 12 (if p ≤ i then k + 1 else k) i) ∧ v.2.2.2.1 = s.1) ⟨rfl, rfl, n + 1, by omega, rfl, fun i hi => by rw [if_neg (by omega)]; exact h i hi, rfl⟩ (fun v hv => ?_)
  obtain ⟨x1, x2, x4, t⟩ := v
  obtain ⟨q0o, q1o, p, hp, q2o, q3o, ro⟩ := hv
  have q0 : x1 = cn k := q0o
  have q1 : x2 = sureN (b.1 89) m k := q1o
  have q2 : x4 = cn p + ci (-1) := q2o
  have q3 : ∀ i, i ≤ n → t.2 98 i = dN (b.1 89) m 12 (if p ≤ i then k + 1 else k) i := q3o
  have r : t.1 = s.1 := ro
  unfold F_X12_laysChances_B64
  dsimp only
  rw [q0, q1, q2]
  by_cases hp0 : p = 0
  · subst hp0
    rw [if_pos (show cn 0 + ci (-1) < 0 by decide)]
    exact pk_some (show _ ∧ _ ∧ _ from ⟨cnu (by omega), fun i hi => by have := q3 i hi; rw [if_pos (Nat.zero_le i)] at this; exact this, r⟩)
  obtain ⟨d, rfl⟩ : ∃ d, p = d + 1 := ⟨p - 1, by omega⟩
  have e1 : cn (d + 1) + ci (-1) = cn d := by rw [← cnu (by omega), Int32.add_assoc]; exact (congrArg (cn d + ·) (by decide : ci 1 + ci (-1) = 0)).trans (Int32.add_zero _)
  have S1 := q3 d (by omega)
  rw [if_neg (by omega)] at S1
  rw [e1, if_neg (cn_nn (n := d) (by omega)), cn_nat (n := d) (by omega), S1]
  refine pk_nn ?_
  have fin : ∀ y : Int64, y = (if d = 0 then cz 0 else (dN (b.1 89) m 12 k (d - 1) * sureN (b.1 89) m k) / cl 1000000) → pk (F_X12_laysChances_116 (cn k) (sureN (b.1 89) m k) (cn d) (cn d) ((dN (b.1 89) m 12 k d * (cl 1000000 - sureN (b.1 89) m k)) / cl 1000000) y t) (se (fun v : Int32 × Int64 × Int32 × mG => v.1 = cn k ∧ v.2.1 = sureN (b.1 89) m k ∧ ∃ p, p ≤ n + 1 ∧ v.2.2.1 = cn p + ci (-1) ∧ (∀ i, i ≤ n → v.2.2.2.2 98 i = dN (b.1 89) m 12 (if p ≤ i then k + 1 else k) i) ∧ v.2.2.2.1 = s.1) (se (fun τ : Int32 × mG => τ.1 = cn (k + 1) ∧ (∀ i, i ≤ n → τ.2.2 98 i = dN (b.1 89) m 12 (k + 1) i) ∧ τ.2.1 = s.1) (fun _ : mG => False))) := fun y hy => by
    unfold F_X12_laysChances_116
    rw [cn_nat (n := d) (by omega)]
    refine pk_nn (pk_some (show _ ∧ _ ∧ ∃ p', _ from ⟨rfl, rfl, d, by omega, rfl, fun i hi => ?_, r⟩))
    show muL t.2 98 d _ 98 i = _
    by_cases f : i = d
    · rw [f, muL_same, if_pos (Nat.le_refl d), dN_s (show k ≠ 12 by omega), hy]
    · rw [muL_cell (Or.inr f)]
      have := q3 i hi
      by_cases g : d + 1 ≤ i
      · rw [if_pos g] at this
        rw [if_pos (by omega)]; exact this
      · rw [if_neg g] at this
        rw [if_neg (by omega)]; exact this
  by_cases d0 : d = 0
  · rw [if_pos (show cn d = 0 by rw [d0]; rfl)]
    exact fin _ (by rw [if_pos d0])
  · rw [if_neg (show ¬ cn d = 0 from cn_ne0 (by omega) d0), show cn d - ci 1 = cn (d - 1) from cn_sub (b := 1) (by omega) (by omega), cn_nat (n := d - 1) (by omega)]
    refine pk_nn (fin _ ?_)
    have S2 := q3 (d - 1) (by omega)
    rw [if_neg (by omega)] at S2
    rw [if_neg d0, S2]
theorem V_laysC {b : mG} {n nc m : Nat} (L : LTy nc (b.1 89)) (g2 : b.1 89 112 = cn n) (hn : n ≤ 12) (hw : b.1 89 115 = cn m) (hm : m ≤ 6) {a : mG} (ha : ∀ j, j ≠ 96 → j ≠ 97 → a.1 j = b.1 j) : pk (F_X12_laysChances a) (fun t => (∀ i, i ≤ n → t.2 98 i = dN (b.1 89) m 12 n i) ∧ ∀ j, j ≠ 96 → j ≠ 97 → t.1 j = b.1 j) := by
  unfold F_X12_laysChances F_X12_laysChances_L2
  refine pk_whl (fun v => ∃ k, k ≤ n + 1 ∧ v.1 = cn k ∧ (∀ i, i < k → v.2.2 98 i = dN (b.1 89) m 12 0 i) ∧ ∀ j, j ≠ 96 → j ≠ 97 → v.2.1 j = b.1 j) ⟨0, Nat.zero_le _, rfl, fun i hi => absurd hi (by omega), ha⟩ (fun v hv => ?_)
  obtain ⟨x1, s⟩ := v
  obtain ⟨k, hk, q1o, q2o, ro⟩ := hv
  have q1 : x1 = cn k := q1o
  have q2 : ∀ i, i < k → s.2 98 i = dN (b.1 89) m 12 0 i := q2o
  have r : ∀ j, j ≠ 96 → j ≠ 97 → s.1 j = b.1 j := ro
  unfold F_X12_laysChances_B2 F_X12_laysChances_29
  dsimp only
  rw [q1, r 89 (by decide) (by decide), g2]
  by_cases hkn : n < k
  · rw [if_pos ((cn_lt (by omega) (by omega)).mpr hkn)]
    refine pk_b1r ?_
    unfold F_X12_laysChances_L38
    refine pk_whl (fun v => ∃ k, k ≤ n ∧ v.1 = cn k ∧ (∀ i, i ≤ n → v.2.2 98 i = dN (b.1 89) m 12 k i) ∧ ∀ j, j ≠ 96 → j ≠ 97 → v.2.1 j = b.1 j) ⟨0, Nat.zero_le _, rfl, fun i hi => q2 i (by omega), r⟩ (fun v hv => ?_)
    obtain ⟨y1, t⟩ := v
    obtain ⟨p, hp, p1o, p2o, rto⟩ := hv
    have p1 : y1 = cn p := p1o
    have p2 : ∀ i, i ≤ n → t.2 98 i = dN (b.1 89) m 12 p i := p2o
    have rt : ∀ j, j ≠ 96 → j ≠ 97 → t.1 j = b.1 j := rto
    have e89 : t.1 89 = b.1 89 := rt 89 (by decide) (by decide)
    unfold F_X12_laysChances_B38
    dsimp only
    rw [p1, e89, g2]
    by_cases hpn : n ≤ p
    · have ep : p = n := by omega
      rw [if_pos ((cn_le (by omega) (by omega)).mpr hpn)]
      rw [ep] at p2
      exact pk_some (show (∀ i, i ≤ n → t.2 98 i = _) ∧ _ from ⟨p2, rt⟩)
    rw [if_neg (fun q => hpn ((cn_le (by omega) (by omega)).mp q))]
    refine pk_b2 (V_sureS L hn (by omega : p < n) hw hm e89) (fun v5 s4 qt => ?_)
    obtain ⟨t1o, t2o, t3o⟩ := qt
    have t1 : v5 = sureN (b.1 89) m p := t1o
    have t2 : ∀ j, j ≠ 96 → j ≠ 97 → s4.1 j = t.1 j := t2o
    have t3 : s4.2 = t.2 := t3o
    rw [t1]
    intro o ho
    have q := V_oneR (b := b) (s := s4) (n := n) (m := m) (k := p) (by rw [t2 89 (by decide) (by decide), e89]; exact g2) hn (by omega) (fun i hi => by rw [t3]; exact p2 i hi) o ho
    cases o with
    | inl v =>
      obtain ⟨z1, z2, z3⟩ := (show _ ∧ _ ∧ _ from q)
      exact (show ∃ k', _ from ⟨p + 1, by omega, z1, z2, fun j h1 h2 => by rw [z3]; exact (t2 j h1 h2).trans (rt j h1 h2)⟩)
    | inr v => exact (show False from q).elim
  rw [if_neg (fun q => hkn ((cn_lt (by omega) (by omega)).mp q)), cn_nat (n := k) (by omega)]
  have fin : ∀ y : Int64, y = dN (b.1 89) m 12 0 k → pk (if cn k < 0 ∨ 13 ≤ k then none else some (Sum.inl (cn k + ci 1, ((s.1, muL s.2 98 k y) : mG)))) (se (fun v : Int32 × mG => ∃ k, k ≤ n + 1 ∧ v.1 = cn k ∧ (∀ i, i < k → v.2.2 98 i = dN (b.1 89) m 12 0 i) ∧ ∀ j, j ≠ 96 → j ≠ 97 → v.2.1 j = b.1 j) (fun t : mG => (∀ i, i ≤ n → t.2 98 i = dN (b.1 89) m 12 n i) ∧ ∀ j, j ≠ 96 → j ≠ 97 → t.1 j = b.1 j)) := fun y hy => by
    refine pk_nn (pk_some (show ∃ k', _ from ⟨k + 1, by omega, cnu (by omega), fun i hi => ?_, r⟩))
    show muL s.2 98 k y 98 i = _
    by_cases f : i = k
    · rw [f, muL_same]; exact hy
    · rw [muL_cell (Or.inr f)]
      exact q2 i (by omega)
  by_cases k0 : k = 0
  · rw [if_pos (show cn k = 0 by rw [k0]; rfl)]
    exact fin (cl 1000000) (by rw [dN_0, if_pos k0])
  · rw [if_neg (show ¬ cn k = 0 from cn_ne0 (by omega) k0)]
    exact fin (cz 0) (by rw [dN_0, if_neg k0])
end
