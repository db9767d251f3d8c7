/-! 5zq3.count -/
section
noncomputable section
theorem V_guestsC {b u : mG} {n nc m sk : Nat} {e : Int32} (hI : IM b) (Ku : HK (b.1 89) n nc u) (hw : b.1 89 115 = cn m) (hm : m ≤ 6) (he : ∀ k, k < n → (cn k = e ↔ k = sk)) (u1 : ∀ g, g < n → Su (u.1 76 g) (sureN (b.1 89) m g)) {z : mG} (hz1 : ∀ i, i < 13 → Su (z.1 75 i) (dN (b.1 89) m sk 0 i)) (hz2 : ∀ j, j ≠ 75 → z.1 j = u.1 j) : pk (F_X0_countChances_L39 e (ci 0) z) (fun t => (∀ i, i < 13 → Su (t.1 75 i) (dN (b.1 89) m sk n i)) ∧ ∀ j, j ≠ 75 → t.1 j = u.1 j) := by
  have hn := Ku.2.2.1
  unfold F_X0_countChances_L39
  refine pk_whl (fun v => v.1 = e ∧ ∃ k, k ≤ n ∧ v.2.1 = cn k ∧ (∀ i, i < 13 → Su (v.2.2.1 75 i) (dN (b.1 89) m sk k i)) ∧ ∀ j, j ≠ 75 → v.2.2.1 j = u.1 j) ⟨rfl, 0, Nat.zero_le _, rfl, hz1, hz2⟩ (fun v hv => ?_)
  obtain ⟨x1, x2, s⟩ := v
  obtain ⟨q0o, k, hk, q1o, q2o, ro⟩ := hv
  have q0 : x1 = e := q0o
  have q1 : x2 = cn k := q1o
  have q2 : ∀ i, i < 13 → Su (s.1 75 i) (dN (b.1 89) m sk k i) := q2o
  have r : ∀ j, j ≠ 75 → s.1 j = u.1 j := ro
  unfold F_X0_countChances_B39 F_X0_countChances_70
  dsimp only
  rw [q0, q1, r 2 (by decide), Ku.2.1]
  by_cases hkn : n ≤ k
  · have ek : k = n := by omega
    rw [if_pos ((cn_le (by omega) (by omega)).mpr hkn)]
    rw [ek] at q2
    exact pk_some (show (∀ i, i < 13 → Su (s.1 75 i) _) ∧ _ from ⟨q2, r⟩)
  rw [if_neg (fun q => hkn ((cn_le (by omega) (by omega)).mp q))]
  by_cases hs : k = sk
  · rw [if_pos ((he k (by omega)).mpr hs)]
    exact pk_some (show _ ∧ ∃ k', _ from ⟨rfl, k + 1, by omega, cnu (by omega), fun i hi => by rw [dN_k hs]; exact q2 i hi, r⟩)
  · rw [if_neg (fun q => hs ((he k (by omega)).mp q)), V_cellJ (j := 76) (k := k) sh76 (by omega) (by decide), b1_some, r 76 (by decide)]
    refine pk_b1 (V_oneC hI hw hm hs (u1 k (by omega)) q2) (fun t qt => ?_)
    obtain ⟨t1, t2⟩ := qt
    exact pk_some (show _ ∧ ∃ k', _ from ⟨rfl, k + 1, by omega, cnu (by omega), t1, fun j hj => (t2 j hj).trans (r j hj)⟩)
theorem V_countC {a b : mG} {n nc m sk : Nat} {e : Int32} (hI : IM b) (K : HK (b.1 89) n nc a) (h3 : a.1 10 3 = cn m) (hw : b.1 89 115 = cn m) (hm : m ≤ 6) (he : ∀ k, k < n → (cn k = e ↔ k = sk)) : pk (F_X0_countChances e a) (fun u => (∀ i, i < 13 → Su (u.1 75 i) (dN (b.1 89) m sk n i)) ∧ (∀ g, g < n → Su (u.1 76 g) (sureN (b.1 89) m g)) ∧ ∀ j, j ≠ 69 → j ≠ 70 → j ≠ 74 → j ≠ 75 → j ≠ 76 → u.1 j = a.1 j) := by
  unfold F_X0_countChances
  refine pk_b1 (V_weigh hI K h3 hm) (fun u qu => ?_)
  obtain ⟨u1, u2⟩ := qu
  have Ku : HK (b.1 89) n nc u := HK_low K (fun j h1 h2 => u2 j (by omega) (by omega) (by omega) (by omega))
  unfold F_X0_countChances_L6
  refine pk_whl (fun v => v.1 = e ∧ ∃ k, k ≤ 13 ∧ v.2.1 = cn k ∧ (∀ i, i < k → Su (v.2.2.1 75 i) (dN (b.1 89) m sk 0 i)) ∧ ∀ j, j ≠ 75 → v.2.2.1 j = u.1 j) ⟨rfl, 0, Nat.zero_le _, rfl, fun i hi => absurd hi (by omega), fun _ _ => rfl⟩ (fun v hv => ?_)
  obtain ⟨x1, x2, s⟩ := v
  obtain ⟨q0o, k, hk, q1o, q2o, ro⟩ := hv
  have q0 : x1 = e := q0o
  have q1 : x2 = cn k := q1o
  have q2 : ∀ i, i < k → Su (s.1 75 i) (dN (b.1 89) m sk 0 i) := q2o
  have r : ∀ j, j ≠ 75 → s.1 j = u.1 j := ro
  unfold F_X0_countChances_B6 F_X0_countChances_30
  dsimp only
  rw [q0, q1]
  by_cases hk13 : 13 ≤ k
  · rw [if_pos ((cn_le (by omega) (by omega)).mpr hk13)]
    refine pk_b1r (fun t ht => ?_)
    have q := V_guestsC hI Ku hw hm he u1 (fun i hi => q2 i (by omega)) r t ht
    exact ⟨q.1, fun g hg => by rw [q.2 76 (by decide)]; exact u1 g hg, fun j h1 h2 h3 h4 h5 => (q.2 j h4).trans (u2 j h1 h2 h3 h5)⟩
  rw [if_neg (fun q => hk13 ((cn_le (by omega) (by omega)).mp q)), cn_nat (n := k) (by omega)]
  have fin : ∀ y : Int32, Su y (dN (b.1 89) m sk 0 k) → pk (if cn k < 0 ∨ 13 ≤ k then none else some (Sum.inl (e, cn k + ci 1, ((mu s.1 75 k y, s.2) : mG)))) (se (fun v : Int32 × Int32 × mG => v.1 = e ∧ ∃ k, k ≤ 13 ∧ v.2.1 = cn k ∧ (∀ i, i < k → Su (v.2.2.1 75 i) (dN (b.1 89) m sk 0 i)) ∧ ∀ j, j ≠ 75 → v.2.2.1 j = u.1 j) (fun u : mG => (∀ i, i < 13 → Su (u.1 75 i) (dN (b.1 89) m sk n i)) ∧ (∀ g, g < n → Su (u.1 76 g) (sureN (b.1 89) m g)) ∧ ∀ j, j ≠ 69 → j ≠ 70 → j ≠ 74 → j ≠ 75 → j ≠ 76 → u.1 j = a.1 j)) := fun y hy => by
    refine pk_nn (pk_some (show _ ∧ ∃ k', _ from ⟨rfl, k + 1, by omega, cnu (by omega), fun i hi => ?_, fun j hj => ?_⟩))
    · show Su (mu s.1 75 k y 75 i) _
      by_cases f : i = k
      · rw [f, mu_same]; exact hy
      · rw [mu_cell (Or.inr f)]
        exact q2 i (by omega)
    · show mu s.1 75 k y j = u.1 j
      exact (mu_row hj).trans (r j hj)
  by_cases k0 : k = 0
  · rw [if_pos (show cn k = 0 by rw [k0]; rfl)]
    exact fin (ci 1000000) (by rw [dN_0, if_pos k0]; exact Su_m)
  · rw [if_neg (show ¬ cn k = 0 from cn_ne0 (by omega) k0)]
    exact fin (ci 0) (by rw [dN_0, if_neg k0]; exact Su_z)
theorem muL_ap {D : Nat → Nat → Int64} {i k j l : Nat} {v : Int64} : muL D i k v j l = if j = i ∧ l = k then v else D j l := by
  unfold muL
  by_cases h : j = i
  · by_cases k' : l = k
    · rw [if_pos h, if_pos k', if_pos ⟨h, k'⟩]
    · rw [if_pos h, if_neg k', if_neg (fun q => k' q.2)]
  · rw [if_neg h, if_neg (fun q => h q.1)]
theorem muL_same {D : Nat → Nat → Int64} {i k : Nat} {v : Int64} : muL D i k v i k = v := by rw [muL_ap, if_pos ⟨rfl, rfl⟩]
theorem muL_cell {D : Nat → Nat → Int64} {i k j l : Nat} {v : Int64} (h : j ≠ i ∨ l ≠ k) : muL D i k v j l = D j l := by
  rw [muL_ap, if_neg (fun q => h.elim (fun e => e q.1) (fun e => e q.2))]
/-- the reference takes one guest in -/
theorem V_oneR {b s : mG} {n m k : Nat} (g2 : s.1 89 112 = cn n) (hn : n ≤ 12) (hk : k < 12) (h : ∀ i, i ≤ n → s.2 98 i = dN (b.1 89) m 12 k i) : pk (F_X12_laysChances_L64 (cn k) (sureN (b.1 89) m k) (s.1 89 112) s) (se (fun τ : Int32 × mG => τ.1 = cn (k + 1) ∧ (∀ i, i ≤ n → τ.2.2 98 i = dN (b.1 89) m 12 (k + 1) i) ∧ τ.2.1 = s.1) (fun _ : mG => False)) := by
  unfold F_X12_laysChances_L64
  rw [g2, show cn n = cn (n + 1) + ci (-1) by rw [← cnu (by omega), Int32.add_assoc]; exact ((congrArg (cn n + ·) (by decide : ci 1 + ci (-1) = 0)).trans (Int32.add_zero _)).symm]
  refine pk_whl (fun v => v.1 = cn k ∧ v.2.1 = sureN (b.1 89) m k ∧ ∃ p, p ≤ n + 1 ∧ v.2.2.1 = cn p + ci (-1) ∧ (∀ i, i ≤ n → v.2.2.2.2 98 i = dN (b.1 89) m 12 (if p ≤ i then k + 1 else k) i) ∧ v.2.2.2.1 = s.1) ⟨rfl, rfl, n + 1, by omega, rfl, fun i hi => by rw [if_neg (by omega)]; exact h i hi, rfl⟩ (fun v hv => ?_)
  obtain ⟨x1, x2, x4, t⟩ := v
  obtain ⟨q0o, q1o, p, hp, q2o, q3o, ro⟩ := hv
  have q0 : x1 = cn k := q0o
  have q1 : x2 = sureN (b.1 89) m k := q1o
  have q2 : x4 = cn p + ci (-1) := q2o
  have q3 : ∀ i, i ≤ n → t.2 98 i = dN (b.1 89) m 12 (if p ≤ i then k + 1 else k) i := q3o
  have r : t.1 = s.1 := ro
  unfold F_X12_laysChances_B64
  dsimp only
  rw [q0, q1, q2]
  by_cases hp0 : p = 0
  · subst hp0
    rw [if_pos (show cn 0 + ci (-1) < 0 by decide)]
    exact pk_some (show _ ∧ _ ∧ _ from ⟨cnu (by omega), fun i hi => by have := q3 i hi; rw [if_pos (Nat.zero_le i)] at this; exact this, r⟩)
  obtain ⟨d, rfl⟩ : ∃ d, p = d + 1 := ⟨p - 1, by omega⟩
  have e1 : cn (d + 1) + ci (-1) = cn d := by rw [← cnu (by omega), Int32.add_assoc]; exact (congrArg (cn d + ·) (by decide : ci 1 + ci (-1) = 0)).trans (Int32.add_zero _)
  have S1 := q3 d (by omega)
  rw [if_neg (by omega)] at S1
  rw [e1, if_neg (cn_nn (n := d) (by omega)), cn_nat (n := d) (by omega), S1]
  refine pk_nn ?_
  have fin : ∀ y : Int64, y = (if d = 0 then cz 0 else (dN (b.1 89) m 12 k (d - 1) * sureN (b.1 89) m k) / cl 1000000) → pk (F_X12_laysChances_116 (cn k) (sureN (b.1 89) m k) (cn d) (cn d) ((dN (b.1 89) m 12 k d * (cl 1000000 - sureN (b.1 89) m k)) / cl 1000000) y t) (se (fun v : Int32 × Int64 × Int32 × mG => v.1 = cn k ∧ v.2.1 = sureN (b.1 89) m k ∧ ∃ p, p ≤ n + 1 ∧ v.2.2.1 = cn p + ci (-1) ∧ (∀ i, i ≤ n → v.2.2.2.2 98 i = dN (b.1 89) m 12 (if p ≤ i then k + 1 else k) i) ∧ v.2.2.2.1 = s.1) (se (fun τ : Int32 × mG => τ.1 = cn (k + 1) ∧ (∀ i, i ≤ n → τ.2.2 98 i = dN (b.1 89) m 12 (k + 1) i) ∧ τ.2.1 = s.1) (fun _ : mG => False))) := fun y hy => by
    unfold F_X12_laysChances_116
    rw [cn_nat (n := d) (by omega)]
    refine pk_nn (pk_some (show _ ∧ _ ∧ ∃ p', _ from ⟨rfl, rfl, d, by omega, rfl, fun i hi => ?_, r⟩))
    show muL t.2 98 d _ 98 i = _
    by_cases f : i = d
    · rw [f, muL_same, if_pos (Nat.le_refl d), dN_s (show k ≠ 12 by omega), hy]
    · rw [muL_cell (Or.inr f)]
      have := q3 i hi
      by_cases g : d + 1 ≤ i
      · rw [if_pos g] at this
        rw [if_pos (by omega)]; exact this
      · rw [if_neg g] at this
        rw [if_neg (by omega)]; exact this
  by_cases d0 : d = 0
  · rw [if_pos (show cn d = 0 by rw [d0]; rfl)]
    exact fin _ (by rw [if_pos d0])
  · rw [if_neg (show ¬ cn d = 0 from cn_ne0 (by omega) d0), show cn d - ci 1 = cn (d - 1) from cn_sub (b := 1) (by omega) (by omega), cn_nat (n := d - 1) (by omega)]
    refine pk_nn (fin _ ?_)
    have S2 := q3 (d - 1) (by omega)
    rw [if_neg (by omega)] at S2
    rw [if_neg d0, S2]
theorem V_laysC {b : mG} {n nc m : Nat} (L : LTy nc (b.1 89)) (g2 : b.1 89 112 = cn n) (hn : n ≤ 12) (hw : b.1 89 115 = cn m) (hm : m ≤ 6) {a : mG} (ha : ∀ j, j ≠ 96 → j ≠ 97 → a.1 j = b.1 j) : pk (F_X12_laysChances a) (fun t => (∀ i, i ≤ n → t.2 98 i = dN (b.1 89) m 12 n i) ∧ ∀ j, j ≠ 96 → j ≠ 97 → t.1 j = b.1 j) := by
  unfold F_X12_laysChances F_X12_laysChances_L2
  refine pk_whl (fun v => ∃ k, k ≤ n + 1 ∧ v.1 = cn k ∧ (∀ i, i < k → v.2.2 98 i = dN (b.1 89) m 12 0 i) ∧ ∀ j, j ≠ 96 → j ≠ 97 → v.2.1 j = b.1 j) ⟨0, Nat.zero_le _, rfl, fun i hi => absurd hi (by omega), ha⟩ (fun v hv => ?_)
  obtain ⟨x1, s⟩ := v
  obtain ⟨k, hk, q1o, q2o, ro⟩ := hv
  have q1 : x1 = cn k := q1o
  have q2 : ∀ i, i < k → s.2 98 i = dN (b.1 89) m 12 0 i := q2o
  have r : ∀ j, j ≠ 96 → j ≠ 97 → s.1 j = b.1 j := ro
  unfold F_X12_laysChances_B2 F_X12_laysChances_29
  dsimp only
  rw [q1, r 89 (by decide) (by decide), g2]
  by_cases hkn : n < k
  · rw [if_pos ((cn_lt (by omega) (by omega)).mpr hkn)]
    refine pk_b1r ?_
    unfold F_X12_laysChances_L38
    refine pk_whl (fun v => ∃ k, k ≤ n ∧ v.1 = cn k ∧ (∀ i, i ≤ n → v.2.2 98 i = dN (b.1 89) m 12 k i) ∧ ∀ j, j ≠ 96 → j ≠ 97 → v.2.1 j = b.1 j) ⟨0, Nat.zero_le _, rfl, fun i hi => q2 i (by omega), r⟩ (fun v hv => ?_)
    obtain ⟨y1, t⟩ := v
    obtain ⟨p, hp, p1o, p2o, rto⟩ := hv
    have p1 : y1 = cn p := p1o
    have p2 : ∀ i, i ≤ n → t.2 98 i = dN (b.1 89) m 12 p i := p2o
    have rt : ∀ j, j ≠ 96 → j ≠ 97 → t.1 j = b.1 j := rto
    have e89 : t.1 89 = b.1 89 := rt 89 (by decide) (by decide)
    unfold F_X12_laysChances_B38
    dsimp only
    rw [p1, e89, g2]
    by_cases hpn : n ≤ p
    · have ep : p = n := by omega
      rw [if_pos ((cn_le (by omega) (by omega)).mpr hpn)]
      rw [ep] at p2
      exact pk_some (show (∀ i, i ≤ n → t.2 98 i = _) ∧ _ from ⟨p2, rt⟩)
    rw [if_neg (fun q => hpn ((cn_le (by omega) (by omega)).mp q))]
    refine pk_b2 (V_sureS L hn (by omega : p < n) hw hm e89) (fun v5 s4 qt => ?_)
    obtain ⟨t1o, t2o, t3o⟩ := qt
    have t1 : v5 = sureN (b.1 89) m p := t1o
    have t2 : ∀ j, j ≠ 96 → j ≠ 97 → s4.1 j = t.1 j := t2o
    have t3 : s4.2 = t.2 := t3o
    rw [t1]
    intro o ho
    have q := V_oneR (b := b) (s := s4) (n := n) (m := m) (k := p) (by rw [t2 89 (by decide) (by decide), e89]; exact g2) hn (by omega) (fun i hi => by rw [t3]; exact p2 i hi) o ho
    cases o with
    | inl v =>
      obtain ⟨z1, z2, z3⟩ := (show _ ∧ _ ∧ _ from q)
      exact (show ∃ k', _ from ⟨p + 1, by omega, z1, z2, fun j h1 h2 => by rw [z3]; exact (t2 j h1 h2).trans (rt j h1 h2)⟩)
    | inr v => exact (show False from q).elim
  rw [if_neg (fun q => hkn ((cn_lt (by omega) (by omega)).mp q)), cn_nat (n := k) (by omega)]
  have fin : ∀ y : Int64, y = dN (b.1 89) m 12 0 k → pk (if cn k < 0 ∨ 13 ≤ k then none else some (Sum.inl (cn k + ci 1, ((s.1, muL s.2 98 k y) : mG)))) (se (fun v : Int32 × mG => ∃ k, k ≤ n + 1 ∧ v.1 = cn k ∧ (∀ i, i < k → v.2.2 98 i = dN (b.1 89) m 12 0 i) ∧ ∀ j, j ≠ 96 → j ≠ 97 → v.2.1 j = b.1 j) (fun t : mG => (∀ i, i ≤ n → t.2 98 i = dN (b.1 89) m 12 n i) ∧ ∀ j, j ≠ 96 → j ≠ 97 → t.1 j = b.1 j)) := fun y hy => by
    refine pk_nn (pk_some (show ∃ k', _ from ⟨k + 1, by omega, cnu (by omega), fun i hi => ?_, r⟩))
    show muL s.2 98 k y 98 i = _
    by_cases f : i = k
    · rw [f, muL_same]; exact hy
    · rw [muL_cell (Or.inr f)]
      exact q2 i (by omega)
  by_cases k0 : k = 0
  · rw [if_pos (show cn k = 0 by rw [k0]; rfl)]
    exact fin (cl 1000000) (by rw [dN_0, if_pos k0])
  · rw [if_neg (show ¬ cn k = 0 from cn_ne0 (by omega) k0)]
    exact fin (cz 0) (by rw [dN_0, if_neg k0])
end
end
/-! 5zq4.many -/
section
noncomputable section
/-! HOW MANY -/
def Sb (M : Int) (x : Int32) (y : Int64) : Prop := y = x.toInt64 ∧ 0 ≤ x.toInt ∧ x.toInt ≤ M
theorem Sb_add {M N : Int} {x y : Int32} {u v : Int64} (h : Sb M x u) (k : Sb N y v) (r : M + N < 2147483648) : Sb (M + N) (x + y) (u + v) := by
  obtain ⟨h0, h1, h2⟩ := h
  obtain ⟨k0, k1, k2⟩ := k
  have c0 : 0 ≤ x.toInt + y.toInt ∧ x.toInt + y.toInt ≤ M + N := ⟨by omega, by omega⟩
  have c1 : -2147483648 ≤ x.toInt + y.toInt ∧ x.toInt + y.toInt < 2147483648 := ⟨by omega, by omega⟩
  have c2 : -9223372036854775808 ≤ x.toInt + y.toInt ∧ x.toInt + y.toInt < 9223372036854775808 := ⟨by omega, by omega⟩
  have e : (x + y).toInt = x.toInt + y.toInt := r_add rfl rfl c1.1 c1.2
  have f : (u + v).toInt = x.toInt + y.toInt := l_add (by rw [h0, Int32.toInt_toInt64]) (by rw [k0, Int32.toInt_toInt64]) c2.1 c2.2
  refine (show _ ∧ _ ∧ _ from ⟨Int64.toInt_inj.mp (f.trans ((Int32.toInt_toInt64 _).trans e).symm), ?_, ?_⟩)
  · rw [e]; exact c0.1
  · rw [e]; exact c0.2
theorem Sb_0 : Sb ((0 : Nat) * 1000000) (ci 0) (cz 0) := (show _ ∧ _ ∧ _ from ⟨by decide, by decide, by decide⟩)
theorem i_div {X : Int} (h : 0 ≤ X) (k : X < 2147483648) : -2147483648 ≤ X / 1000000 ∧ X / 1000000 < 2147483648 := ⟨by omega, by omega⟩
theorem q32 {z : Int64} {X : Int} (e : z.toInt = X) (h : -2147483648 ≤ X ∧ X < 2147483648) : z.toInt32.toInt = X := by
  rw [Int64.toInt_toInt32, e]
  exact Int.bmod_eq_of_le (by omega) (by omega)
theorem Sb_div {M : Int} {x : Int32} {u : Int64} (h : Sb M x u) (r : M < 2147483648) : x / ci 1000000 = (u / cl 1000000).toInt32 := by
  obtain ⟨h0, h1, h2⟩ := h
  have b := i_div h1 (by omega)
  have e : (x / ci 1000000).toInt = x.toInt / 1000000 := t_div rfl (by decide : (ci 1000000).toInt = 1000000) h1 (by decide)
  have f : (u / cl 1000000).toInt = x.toInt / 1000000 := l_div (by rw [h0, Int32.toInt_toInt64]) (by decide : (cl 1000000).toInt = 1000000) h1 (by decide) (Int.lt_of_le_of_lt h2 (Int.lt_trans r (by decide)))
  exact Int32.toInt_inj.mp (e.trans (q32 f b).symm)
def sN (w : Nat → Int32) (m : Nat) : Nat → Int64
  | 0 => cz 0
  | k + 1 => sN w m k + sureN w m k
theorem V_sumC {a b : mG} {n nc m : Nat} (hI : IM b) (K : HK (b.1 89) n nc a) (h3 : a.1 10 3 = cn m) (hm : m ≤ 6) : pk (F_X0_sumOfSure a) (fun τ => τ.1 = (sN (b.1 89) m n / cl 1000000).toInt32) := by
  have hn := K.2.2.1
  unfold F_X0_sumOfSure
  refine pk_b1 (V_weigh hI K h3 hm) (fun u qu => ?_)
  obtain ⟨u1, u2⟩ := qu
  have Ku : HK (b.1 89) n nc u := HK_low K (fun j h1 h2 => u2 j (by omega) (by omega) (by omega) (by omega))
  unfold F_X0_sumOfSure_L8
  refine pk_whl (fun v => ∃ k : Nat, k ≤ n ∧ v.2.1 = cn k ∧ Sb (k * 1000000) v.1 (sN (b.1 89) m k) ∧ v.2.2 = u) ⟨0, Nat.zero_le _, rfl, Sb_0, rfl⟩ (fun v hv => ?_)
  obtain ⟨x1, x2, s⟩ := v
  obtain ⟨k, hk, q1o, q2o, q3o⟩ := hv
  have q1 : x2 = cn k := q1o
  have q2 : Sb (k * 1000000) x1 (sN (b.1 89) m k) := q2o
  have q3 : s = u := q3o
  unfold F_X0_sumOfSure_B8
  dsimp only
  rw [q1, q3, Ku.2.1]
  by_cases hkn : n ≤ k
  · have ek : k = n := by omega
    rw [if_pos ((cn_le (by omega) (by omega)).mpr hkn)]
    rw [ek] at q2
    exact pk_some (show x1 / ci 1000000 = _ from Sb_div q2 (by omega))
  rw [if_neg (fun q => hkn ((cn_le (by omega) (by omega)).mp q)), V_cellJ sh76 (by omega) (by decide), b1_some]
  have q4 : Sb 1000000 (u.1 76 k) (sureN (b.1 89) m k) := u1 k (by omega)
  have q5 := Sb_add q2 q4 (by omega)
  rw [show (k : Int) * 1000000 + 1000000 = ((k + 1 : Nat) : Int) * 1000000 by omega] at q5
  exact pk_some (show ∃ k' : Nat, _ from ⟨k + 1, by omega, cnu (by omega), q5, rfl⟩)
/-- the likeliest -/
def lkN (f : Nat → Int64) : Nat → Nat
  | 0 => 0
  | i + 1 => if (f (i + 1)).toInt ≤ (f (lkN f i)).toInt then lkN f i else i + 1
theorem lkN_s {f : Nat → Int64} {i : Nat} : lkN f (i + 1) = if (f (i + 1)).toInt ≤ (f (lkN f i)).toInt then lkN f i else i + 1 := rfl
theorem lkN_b {f : Nat → Int64} : ∀ i, lkN f i ≤ i := by
  intro i
  induction i with
  | zero => exact Nat.le_refl _
  | succ i ih =>
    rw [lkN_s]
    by_cases h : (f (i + 1)).toInt ≤ (f (lkN f i)).toInt
    · rw [if_pos h]; omega
    · rw [if_neg h]; omega
theorem V_likeC {a b : mG} {n nc m : Nat} {x : Int32} (hI : IM b) (K : HK (b.1 89) n nc a) (h3 : a.1 10 3 = cn m) (hw : b.1 89 115 = cn m) (hm : m ≤ 6) : pk (F_X0_likeliest x a) (fun τ => (x = 0 → τ.1 = cn (lkN (dN (b.1 89) m 12 n) n)) ∧ (¬ x = 0 → Su τ.1 (dN (b.1 89) m 12 n (lkN (dN (b.1 89) m 12 n) n)))) := by
  have hn := K.2.2.1
  unfold F_X0_likeliest
  refine pk_b1 (V_countC (sk := 12) hI K h3 hw hm (fun k hk => ⟨fun e => absurd e (cn_ne1 (by omega)), fun e => by omega⟩)) (fun u qu => ?_)
  obtain ⟨u1, u0, u2⟩ := qu
  have Ku : HK (b.1 89) n nc u := HK_low K (fun j h1 h2 => u2 j (by omega) (by omega) (by omega) (by omega) (by omega))
  unfold F_X0_likeliest_L9
  refine pk_whl (fun v => v.1 = x ∧ ∃ k, k ≤ n ∧ v.2.1 = cn (lkN (dN (b.1 89) m 12 n) k) ∧ v.2.2.1 = cn (k + 1) ∧ v.2.2.2 = u) ⟨rfl, 0, Nat.zero_le _, rfl, rfl, rfl⟩ (fun v hv => ?_)
  obtain ⟨x1, x2, x3, s⟩ := v
  obtain ⟨q0o, k, hk, q1o, q2o, q3o⟩ := hv
  have q0 : x1 = x := q0o
  have q1 : x2 = cn (lkN (dN (b.1 89) m 12 n) k) := q1o
  have q2 : x3 = cn (k + 1) := q2o
  have q3 : s = u := q3o
  have bb := lkN_b (f := dN (b.1 89) m 12 n) k
  unfold F_X0_likeliest_B9 F_X0_likeliest_47
  dsimp only
  rw [q0, q1, q2, q3, Ku.2.1]
  by_cases hkn : n < k + 1
  · have ek : k = n := by omega
    rw [if_pos ((cn_lt (by omega) (by omega)).mpr hkn)]
    by_cases hx : x = 0
    · rw [if_pos hx]
      exact pk_some (show (_ → _) ∧ (_ → _) from ⟨fun _ => by rw [ek], fun q => absurd hx q⟩)
    · rw [if_neg hx, V_cellJ sh75 (by omega) (by decide), b1_some]
      have q := u1 (lkN (dN (b.1 89) m 12 n) k) (by omega)
      rw [ek] at q ⊢
      exact pk_some (show (_ → _) ∧ (_ → _) from ⟨fun q => absurd q hx, fun _ => q⟩)
  rw [if_neg (fun q => hkn ((cn_lt (by omega) (by omega)).mp q)), V_cellJ (j := 75) (k := k + 1) sh75 (by omega) (by decide), b1_some, V_cellJ (j := 75) (k := lkN (dN (b.1 89) m 12 n) k) sh75 (by omega) (by decide), b1_some]
  have s1 := u1 (k + 1) (by omega)
  have s2 := u1 (lkN (dN (b.1 89) m 12 n) k) (by omega)
  by_cases hl : (dN (b.1 89) m 12 n (k + 1)).toInt ≤ (dN (b.1 89) m 12 n (lkN (dN (b.1 89) m 12 n) k)).toInt
  · rw [if_pos (Int32.le_iff_toInt_le.mpr (by rw [← Su_t s1, ← Su_t s2]; exact hl))]
    exact pk_some (show _ ∧ ∃ k', _ from ⟨rfl, k + 1, by omega, by rw [lkN_s, if_pos hl], cnu (by omega), rfl⟩)
  · rw [if_neg (fun q => hl (by rw [Su_t s1, Su_t s2]; exact Int32.le_iff_toInt_le.mp q))]
    exact pk_some (show _ ∧ ∃ k', _ from ⟨rfl, k + 1, by omega, by rw [lkN_s, if_neg hl], cnu (by omega), rfl⟩)
theorem V_likeR {b t : mG} {n m : Nat} {x : Int32} (g2 : t.1 89 112 = cn n) (hn : n ≤ 12) (ht : ∀ i, i ≤ n → t.2 98 i = dN (b.1 89) m 12 n i) : pk (F_X12_many_L64 x (ci 0) (ci 1) t) (fun τ => (x = ci 1 → τ.1 = cn (lkN (dN (b.1 89) m 12 n) n)) ∧ (¬ x = ci 1 → τ.1 = (dN (b.1 89) m 12 n (lkN (dN (b.1 89) m 12 n) n)).toInt32)) := by
  unfold F_X12_many_L64
  refine pk_whl (fun v => v.1 = x ∧ ∃ k, k ≤ n ∧ v.2.1 = cn (lkN (dN (b.1 89) m 12 n) k) ∧ v.2.2.1 = cn (k + 1) ∧ v.2.2.2 = t) ⟨rfl, 0, Nat.zero_le _, rfl, rfl, rfl⟩ (fun v hv => ?_)
  obtain ⟨x1, x4, x5, s⟩ := v
  obtain ⟨q0o, k, hk, q1o, q2o, q3o⟩ := hv
  have q0 : x1 = x := q0o
  have q1 : x4 = cn (lkN (dN (b.1 89) m 12 n) k) := q1o
  have q2 : x5 = cn (k + 1) := q2o
  have q3 : s = t := q3o
  have bb := lkN_b (f := dN (b.1 89) m 12 n) k
  unfold F_X12_many_B64 F_X12_many_98
  dsimp only
  rw [q0, q1, q2, q3, g2, cn_nat (n := lkN (dN (b.1 89) m 12 n) k) (by omega), ht _ (show lkN (dN (b.1 89) m 12 n) k ≤ n by omega)]
  by_cases hkn : n < k + 1
  · have ek : k = n := by omega
    rw [if_pos ((cn_lt (by omega) (by omega)).mpr hkn)]
    by_cases hx : x = ci 1
    · rw [if_pos hx]
      exact pk_some (show (_ → _) ∧ (_ → _) from ⟨fun _ => by rw [ek], fun q => absurd hx q⟩)
    · rw [if_neg hx]
      refine pk_nn ?_
      rw [ek]
      exact pk_some (show (_ → _) ∧ (_ → _) from ⟨fun q => absurd q hx, fun _ => rfl⟩)
  rw [if_neg (fun q => hkn ((cn_lt (by omega) (by omega)).mp q)), cn_nat (n := k + 1) (by omega), ht (k + 1) (by omega)]
  refine pk_nn (pk_nn ?_)
  by_cases hl : (dN (b.1 89) m 12 n (k + 1)).toInt ≤ (dN (b.1 89) m 12 n (lkN (dN (b.1 89) m 12 n) k)).toInt
  · rw [if_pos ((lg_cmp_le _ _).mpr (Int64.le_iff_toInt_le.mpr hl))]
    exact pk_some (show _ ∧ ∃ k', _ from ⟨rfl, k + 1, by omega, by rw [lkN_s, if_pos hl], cnu (by omega), rfl⟩)
  · rw [if_neg (fun q => hl (Int64.le_iff_toInt_le.mp ((lg_cmp_le _ _).mp q)))]
    exact pk_some (show _ ∧ ∃ k', _ from ⟨rfl, k + 1, by omega, by rw [lkN_s, if_neg hl], cnu (by omega), rfl⟩)
/-- the reference, all of it -/
def MnQ (w : Nat → Int32) (m n : Nat) (x v : Int32) : Prop := (x = 0 → v = (sN w m n / cl 1000000).toInt32) ∧ (x = ci 1 → v = cn (lkN (dN w m 12 n) n)) ∧ (¬ x = 0 → ¬ x = ci 1 → v = (dN w m 12 n (lkN (dN w m 12 n) n)).toInt32)
theorem V_manyR {b : mG} {n nc m : Nat} {x : Int32} (L : LTy nc (b.1 89)) (g2 : b.1 89 112 = cn n) (hn : n ≤ 12) (hw : b.1 89 115 = cn m) (hm : m ≤ 6) : pk (F_X12_many_L16 x (cz 0) (ci 0) b) (fun τ => MnQ (b.1 89) m n x τ.1) := by
  unfold F_X12_many_L16
  refine pk_whl (fun v => v.1 = x ∧ ∃ k, k ≤ n ∧ v.2.1 = sN (b.1 89) m k ∧ v.2.2.1 = cn k ∧ ∀ j, j ≠ 96 → j ≠ 97 → v.2.2.2.1 j = b.1 j) ⟨rfl, 0, Nat.zero_le _, rfl, rfl, fun _ _ _ => rfl⟩ (fun v hv => ?_)
  obtain ⟨x1, x2, x4, s⟩ := v
  obtain ⟨q0o, k, hk, q1o, q2o, ro⟩ := hv
  have q0 : x1 = x := q0o
  have q1 : x2 = sN (b.1 89) m k := q1o
  have q2 : x4 = cn k := q2o
  have r : ∀ j, j ≠ 96 → j ≠ 97 → s.1 j = b.1 j := ro
  have e89 : s.1 89 = b.1 89 := r 89 (by decide) (by decide)
  unfold F_X12_many_B16
  dsimp only
  rw [q0, q1, q2, e89, g2]
  by_cases hkn : n ≤ k
  · have ek : k = n := by omega
    rw [if_pos ((cn_le (by omega) (by omega)).mpr hkn)]
    by_cases hx : x = 0
    · rw [if_pos hx]
      exact pk_some (show (_ → _) ∧ (_ → _) ∧ (_ → _ → _) from ⟨fun _ => by rw [ek], fun q => absurd (hx.symm.trans q) (by decide), fun q => absurd hx q⟩)
    · rw [if_neg hx]
      refine pk_b1 (V_laysC L g2 hn hw hm r) (fun t qt => ?_)
      obtain ⟨t1, t2⟩ := qt
      refine pk_b1r (fun o ho => ?_)
      have q := V_likeR (b := b) (t := t) (n := n) (m := m) (x := x) (by rw [t2 89 (by decide) (by decide)]; exact g2) hn t1 o ho
      exact (show (_ → _) ∧ (_ → _) ∧ (_ → _ → _) from ⟨fun z => absurd z hx, q.1, fun _ z => q.2 z⟩)
  rw [if_neg (fun q => hkn ((cn_le (by omega) (by omega)).mp q))]
  refine pk_b2 (V_sureS L hn (by omega : k < n) hw hm e89) (fun v9 s8 qt => ?_)
  obtain ⟨t1o, t2o, _⟩ := qt
  have t1 : v9 = sureN (b.1 89) m k := t1o
  have t2 : ∀ j, j ≠ 96 → j ≠ 97 → s8.1 j = s.1 j := t2o
  rw [t1]
  exact pk_some (show _ ∧ ∃ k', _ from ⟨rfl, k + 1, by omega, rfl, cnu (by omega), fun j h1 h2 => (t2 j h1 h2).trans (r j h1 h2)⟩)
theorem R_many {a b : mG} {x : Int32} (hI : IM b) (h : SIM a b) : rel (F_X11_many x a) (F_X12_many x b) (fun τ υ => τ.1 = υ.1) := by
  obtain ⟨n, nc, m, K, g2, V, hm, h3, hw⟩ := SIM_S h
  have hn := K.2.2.1
  unfold F_X11_many F_X12_many
  rw [F_isIn, b1_some]
  have R := V_manyR (x := x) K.2.2.2.2 g2 hn hw hm
  by_cases hx : wi x (ci 0) (ci 2) = 0
  · have ny : ∀ c : Nat, c ≤ 2 → ¬ x = cn c := fun c hc e => by
      rw [e] at hx
      have : ∀ c, c ≤ 2 → ¬ wi (cn c) (ci 0) (ci 2) = 0 := by decide
      exact this c hc hx
    rw [if_pos hx, if_neg (show ¬ x = ci 0 from ny 0 (by omega)), if_neg (show ¬ x = ci 1 from ny 1 (by omega)), if_neg (show ¬ x = ci 2 from ny 2 (by omega))]
    exact rel_some rfl
  · obtain ⟨c, hc, ey⟩ := wi_cn (l := 2) (by omega) hx
    rw [if_neg hx]
    rcases (show c = 0 ∨ c = 1 ∨ c = 2 by omega) with e | e | e <;> rw [e] at ey
    · rw [if_pos (show x = ci 0 from ey)]
      refine rel_l2 (V_sumC hI K h3 hm) (fun v s qo => ?_)
      have q : v = (sN (b.1 89) m n / cl 1000000).toInt32 := qo
      exact rel_sp R (fun v' qv => show v = v'.1 from q.trans (qv.1 (ey.trans (by decide))).symm)
    · rw [if_neg (show ¬ x = ci 0 by rw [ey]; decide), if_pos (show x = ci 1 from ey)]
      refine rel_l2 (V_likeC (x := ci 0) hI K h3 hw hm) (fun v s qo => ?_)
      have q : v = cn (lkN (dN (b.1 89) m 12 n) n) := qo.1 (by decide)
      exact rel_sp R (fun v' qv => show v = v'.1 from q.trans (qv.2.1 ey).symm)
    · rw [if_neg (show ¬ x = ci 0 by rw [ey]; decide), if_neg (show ¬ x = ci 1 by rw [ey]; decide), if_pos (show x = ci 2 from ey)]
      refine rel_l2 (V_likeC (x := ci 1) hI K h3 hw hm) (fun v s qo => ?_)
      have q : Su v (dN (b.1 89) m 12 n (lkN (dN (b.1 89) m 12 n) n)) := qo.2 (by decide)
      exact rel_sp R (fun v' qv => show v = v'.1 from (Su_32 q).symm.trans (qv.2.2 (by rw [ey]; decide) (by rw [ey]; decide)).symm)
end
end
/-! 5zq5.others -/
section
noncomputable section
/-! ONE AMONG HOW MANY -/
/-- the reference's row stands one place further -/
def oN (w : Nat → Int32) (m g k i : Nat) : Int64 := if i = 0 then cz 0 else dN w m g k (i - 1)
theorem oN_s {b : mG} {m g k i : Nat} (hI : IM b) (hw : b.1 89 115 = cn m) (hm : m ≤ 6) (hk : k ≠ g) : (oN (b.1 89) m g k (i + 1) * (cl 1000000 - sureN (b.1 89) m k)) / cl 1000000 + (oN (b.1 89) m g k i * sureN (b.1 89) m k) / cl 1000000 = oN (b.1 89) m g (k + 1) (i + 1) := by
  unfold oN
  rw [if_neg (by omega : ¬ i + 1 = 0), if_neg (by omega : ¬ i + 1 = 0), show i + 1 - 1 = i by omega, dN_s hk]
  by_cases e : i = 0
  · rw [if_pos e, if_pos e, sh_z (sureN_r hI hw hm)]
  · rw [if_neg e, if_neg e]
theorem V_oneO {b s : mG} {m g k : Nat} (hI : IM b) (hw : b.1 89 115 = cn m) (hm : m ≤ 6) (hk : k < 12) (hkg : k ≠ g) (h : ∀ i, i < 14 → s.2 99 i = oN (b.1 89) m g k i) : pk (F_X12_laysOthers_L63 (cn g) (cn k) (sureN (b.1 89) m k) (c8 13) s) (se (fun τ : Int32 × Int32 × mG => τ.1 = cn g ∧ τ.2.1 = cn (k + 1) ∧ (∀ i, i < 14 → τ.2.2.2 99 i = oN (b.1 89) m g (k + 1) i) ∧ τ.2.2.1 = s.1) (fun _ : mG => False)) := by
  unfold F_X12_laysOthers_L63
  refine pk_whl (fun v => v.1 = cn g ∧ v.2.1 = cn k ∧ v.2.2.1 = sureN (b.1 89) m k ∧ ∃ p, p ≤ 13 ∧ v.2.2.2.1 = cn p ∧ (∀ i, i < 14 → v.2.2.2.2.2 99 i = oN (b.1 89) m g (if p + 1 ≤ i then k + 1 else k) i) ∧ v.2.2.2.2.1 = s.1) ⟨rfl, rfl, rfl, 13, by omega, (show c8 13 = cn 13 by decide), fun i hi => by rw [if_neg (by omega)]; exact h i hi, rfl⟩ (fun v hv => ?_)
  obtain ⟨x1, x2, x3, x5, t⟩ := v
  obtain ⟨q0o, q1o, q2o, p, hp, q3o, q4o, ro⟩ := hv
  have q0 : x1 = cn g := q0o
  have q1 : x2 = cn k := q1o
  have q2 : x3 = sureN (b.1 89) m k := q2o
  have q3 : x5 = cn p := q3o
  have q4 : ∀ i, i < 14 → t.2 99 i = oN (b.1 89) m g (if p + 1 ≤ i then k + 1 else k) i := q4o
  have r : t.1 = s.1 := ro
  unfold F_X12_laysOthers_B63 F_X12_laysOthers_115
  dsimp only
  rw [q0, q1, q2, q3]
  by_cases hp0 : p = 0
  · subst hp0
    rw [if_pos (show cn 0 < ci 1 by decide)]
    refine pk_b1r (pk_some (show _ ∧ _ ∧ _ ∧ _ from ⟨rfl, cnu (by omega), fun i hi => ?_, r⟩))
    show t.2 99 i = _
    rw [q4 i hi]
    by_cases e : i = 0
    · rw [if_neg (by omega), e]; rfl
    · rw [if_pos (by omega)]
  obtain ⟨d, rfl⟩ : ∃ d, p = d + 1 := ⟨p - 1, by omega⟩
  have S1 := q4 (d + 1) (by omega)
  have S2 := q4 d (by omega)
  rw [if_neg (by omega)] at S1 S2
  rw [if_neg (show ¬ cn (d + 1) < ci 1 from fun q => by have := (cn_lt (b := 1) (by omega) (by omega)).mp q; omega), show cn (d + 1) - ci 1 = cn d from (cn_sub (b := 1) (by omega) (by omega)), cn_nat (n := d + 1) (by omega), cn_nat (n := d) (by omega), S1, S2, oN_s hI hw hm hkg]
  refine pk_nn (pk_nn (pk_nn (pk_some (show _ ∧ _ ∧ _ ∧ ∃ p', _ from ⟨rfl, rfl, rfl, d, by omega, ?_, fun i hi => ?_, r⟩))))
  · show cn (d + 1) + ci (-1) = cn d
    rw [← cnu (by omega), Int32.add_assoc]
    exact (congrArg (cn d + ·) (by decide : ci 1 + ci (-1) = 0)).trans (Int32.add_zero _)
  · show muL t.2 99 (d + 1) _ 99 i = _
    by_cases f : i = d + 1
    · rw [f, muL_same, if_pos (Nat.le_refl _)]
    · rw [muL_cell (Or.inr f)]
      have := q4 i hi
      by_cases e : d + 1 + 1 ≤ i
      · rw [if_pos e] at this
        rw [if_pos (by omega)]; exact this
      · rw [if_neg e] at this
        rw [if_neg (by omega)]; exact this
theorem V_laysO {b : mG} {n nc m g : Nat} (hI : IM b) (L : LTy nc (b.1 89)) (g2 : b.1 89 112 = cn n) (hn : n ≤ 12) (hw : b.1 89 115 = cn m) (hm : m ≤ 6) (hg : g < n) : pk (F_X12_laysOthers (cn g) b) (fun t => (∀ i, i < 14 → t.2 99 i = oN (b.1 89) m g n i) ∧ ∀ j, j ≠ 96 → j ≠ 97 → t.1 j = b.1 j) := by
  unfold F_X12_laysOthers F_X12_laysOthers_L2
  refine pk_whl (fun v => v.1 = cn g ∧ ∃ k, k ≤ 14 ∧ v.2.1 = cn k ∧ (∀ i, i < k → v.2.2.2 99 i = oN (b.1 89) m g 0 i) ∧ ∀ j, j ≠ 96 → j ≠ 97 → v.2.2.1 j = b.1 j) ⟨rfl, 0, Nat.zero_le _, rfl, fun i hi => absurd hi (by omega), fun _ _ _ => rfl⟩ (fun v hv => ?_)
  obtain ⟨x1, x2, s⟩ := v
  obtain ⟨q0o, k, hk, q1o, q2o, ro⟩ := hv
  have q0 : x1 = cn g := q0o
  have q1 : x2 = cn k := q1o
  have q2 : ∀ i, i < k → s.2 99 i = oN (b.1 89) m g 0 i := q2o
  have r : ∀ j, j ≠ 96 → j ≠ 97 → s.1 j = b.1 j := ro
  unfold F_X12_laysOthers_B2 F_X12_laysOthers_25
  dsimp only
  rw [q0, q1]
  by_cases hkn : 14 ≤ k
  · rw [if_pos (show c8 14 ≤ cn k from (cn_le (a := 14) (by omega) (by omega)).mpr hkn)]
    refine pk_b1r ?_
    unfold F_X12_laysOthers_L34
    refine pk_whl (fun v => v.1 = cn g ∧ ∃ k, k ≤ n ∧ v.2.1 = cn k ∧ (∀ i, i < 14 → v.2.2.2 99 i = oN (b.1 89) m g k i) ∧ ∀ j, j ≠ 96 → j ≠ 97 → v.2.2.1 j = b.1 j) ⟨rfl, 0, Nat.zero_le _, rfl, fun i hi => q2 i (by omega), r⟩ (fun v hv => ?_)
    obtain ⟨y1, y2, t⟩ := v
    obtain ⟨p0o, p, hp, p1o, p2o, rto⟩ := hv
    have p0 : y1 = cn g := p0o
    have p1 : y2 = cn p := p1o
    have p2 : ∀ i, i < 14 → t.2 99 i = oN (b.1 89) m g p i := p2o
    have rt : ∀ j, j ≠ 96 → j ≠ 97 → t.1 j = b.1 j := rto
    have e89 : t.1 89 = b.1 89 := rt 89 (by decide) (by decide)
    unfold F_X12_laysOthers_B34 F_X12_laysOthers_115
    dsimp only
    rw [p0, p1, e89, g2]
    by_cases hpn : n ≤ p
    · have ep : p = n := by omega
      rw [if_pos ((cn_le (by omega) (by omega)).mpr hpn)]
      rw [ep] at p2
      exact pk_some (show (∀ i, i < 14 → t.2 99 i = _) ∧ _ from ⟨p2, rt⟩)
    rw [if_neg (fun q => hpn ((cn_le (by omega) (by omega)).mp q))]
    by_cases hpg : p = g
    · rw [if_pos (show cn p = cn g by rw [hpg])]
      refine pk_some (show _ ∧ ∃ k', _ from ⟨rfl, p + 1, by omega, cnu (by omega), fun i hi => ?_, rt⟩)
      show t.2 99 i = _
      rw [p2 i hi]
      unfold oN
      by_cases e : i = 0
      · rw [if_pos e, if_pos e]
      · rw [if_neg e, if_neg e, dN_k hpg]
    rw [if_neg (fun q => hpg ((cn_inj (by omega) (by omega)).mp q))]
    refine pk_b2 (V_sureS L hn (by omega : p < n) hw hm e89) (fun v5 s4 qt => ?_)
    obtain ⟨t1o, t2o, t3o⟩ := qt
    have t1 : v5 = sureN (b.1 89) m p := t1o
    have t2 : ∀ j, j ≠ 96 → j ≠ 97 → s4.1 j = t.1 j := t2o
    have t3 : s4.2 = t.2 := t3o
    rw [t1]
    intro o ho
    have q := V_oneO (b := b) (s := s4) (m := m) (g := g) (k := p) hI hw hm (by omega) hpg (fun i hi => by rw [t3]; exact p2 i hi) o ho
    cases o with
    | inl v =>
      obtain ⟨z0, z1, z2, z3⟩ := (show _ ∧ _ ∧ _ ∧ _ from q)
      exact (show _ ∧ ∃ k', _ from ⟨z0, p + 1, by omega, z1, z2, fun j h1 h2 => by rw [z3]; exact (t2 j h1 h2).trans (rt j h1 h2)⟩)
    | inr v => exact (show False from q).elim
  rw [if_neg (show ¬ c8 14 ≤ cn k from fun q => hkn ((cn_le (a := 14) (by omega) (by omega)).mp q)), cn_nat (n := k) (by omega)]
  have fin : ∀ y : Int64, y = oN (b.1 89) m g 0 k → pk (if cn k < 0 ∨ 14 ≤ k then none else some (Sum.inl (cn g, cn k + ci 1, ((s.1, muL s.2 99 k y) : mG)))) (se (fun v : Int32 × Int32 × mG => v.1 = cn g ∧ ∃ k, k ≤ 14 ∧ v.2.1 = cn k ∧ (∀ i, i < k → v.2.2.2 99 i = oN (b.1 89) m g 0 i) ∧ ∀ j, j ≠ 96 → j ≠ 97 → v.2.2.1 j = b.1 j) (fun t : mG => (∀ i, i < 14 → t.2 99 i = oN (b.1 89) m g n i) ∧ ∀ j, j ≠ 96 → j ≠ 97 → t.1 j = b.1 j)) := fun y hy => by
    refine pk_nn (pk_some (show _ ∧ ∃ k', _ from ⟨rfl, k + 1, by omega, cnu (by omega), fun i hi => ?_, r⟩))
    show muL s.2 99 k y 99 i = _
    by_cases f : i = k
    · rw [f, muL_same]; exact hy
    · rw [muL_cell (Or.inr f)]
      exact q2 i (by omega)
  by_cases k0 : k = 1
  · rw [if_pos (show cn k = ci 1 by rw [k0]; rfl)]
    exact fin (cl 1000000) (by unfold oN; rw [k0, if_neg (by decide), dN_0, if_pos (by decide)])
  · rw [if_neg (show ¬ cn k = ci 1 from fun q => k0 ((cn_inj (b := 1) (by omega) (by omega)).mp q))]
    refine fin (cz 0) ?_
    unfold oN
    by_cases e : k = 0
    · rw [if_pos e]
    · rw [if_neg e, dN_0, if_neg (by omega)]
theorem R_counted {a b : mG} {x y : Int32} (hI : IM b) (h : SIM a b) : rel (F_X11_counted x y a) (F_X12_counted x y b) (fun τ υ => τ.1 = υ.1) := by
  obtain ⟨n, nc, m, K, g2, V, hm, h3, hw⟩ := SIM_S h
  have hn := K.2.2.1
  unfold F_X11_counted F_X12_counted F_X11_counted_21 F_X12_counted_18
  rw [V_isGuest, V_isGuestR g2 hn, b1_some, b1_some, show a.1 (1 + 1) 3 = cn n from K.2.1]
  refine rel_ifs Iff.rfl (fun _ => rel_some rfl) (fun hx => ?_)
  obtain ⟨g, hg, ex⟩ := ig_cn (by omega) hx
  rw [V_within, F_isIn, b1_some, b1_some]
  refine rel_ifs Iff.rfl (fun _ => rel_some rfl) (fun hy => ?_)
  obtain ⟨c, hc, ey⟩ := wi_cn (l := 12) (by omega) hy
  rw [ex, ey]
  refine rel_l2 (x := F_X0_amongCounted (cn g) (cn c) a) (P := fun τ => τ.1 = (if (lg_cmp (sureN (b.1 89) m g * oN (b.1 89) m g n c + (cl 1000000 - sureN (b.1 89) m g) * oN (b.1 89) m g n (c + 1)) (cz 0)) = 0 then ci (-1) else ((cl 1000000 * (sureN (b.1 89) m g * oN (b.1 89) m g n c)) / (sureN (b.1 89) m g * oN (b.1 89) m g n c + (cl 1000000 - sureN (b.1 89) m g) * oN (b.1 89) m g n (c + 1))).toInt32)) ?_ (fun v s q => ?_)
  · unfold F_X0_amongCounted
    refine pk_b1 (V_countC (sk := g) hI K h3 hw hm (fun k hk => cn_inj (by omega) (by omega))) (fun u qu => ?_)
    obtain ⟨u1, u0, u2⟩ := qu
    rw [V_cellJ (j := 76) (k := g) sh76 (by omega) (by decide), b1_some]
    have s0 := (u0 g hg).1
    have s1 : (u.1 75 c).toInt64 = oN (b.1 89) m g n (c + 1) := by
      unfold oN
      rw [if_neg (by omega), show c + 1 - 1 = c by omega]
      exact (u1 c (by omega)).1.symm
    have fin : ∀ v6 : Int32, v6.toInt64 = oN (b.1 89) m g n c → pk (b1 (F_X11_cell 75 u (cn c)) fun v9 => if (lg_cmp ((u.1 76 g).toInt64 * v6.toInt64 + ((cl 1000000) - (u.1 76 g).toInt64) * v9.toInt64) (cz 0)) = 0 then some ((ci (-1)), u) else if ((u.1 76 g).toInt64 * v6.toInt64 + ((cl 1000000) - (u.1 76 g).toInt64) * v9.toInt64) = 0 then none else some ((((cl 1000000) * ((u.1 76 g).toInt64 * v6.toInt64)) / ((u.1 76 g).toInt64 * v6.toInt64 + ((cl 1000000) - (u.1 76 g).toInt64) * v9.toInt64)).toInt32, u)) (fun τ : Int32 × mG => τ.1 = (if (lg_cmp (sureN (b.1 89) m g * oN (b.1 89) m g n c + (cl 1000000 - sureN (b.1 89) m g) * oN (b.1 89) m g n (c + 1)) (cz 0)) = 0 then ci (-1) else ((cl 1000000 * (sureN (b.1 89) m g * oN (b.1 89) m g n c)) / (sureN (b.1 89) m g * oN (b.1 89) m g n c + (cl 1000000 - sureN (b.1 89) m g) * oN (b.1 89) m g n (c + 1))).toInt32)) := fun v6 h6 => by
      rw [V_cellJ (j := 75) (k := c) sh75 (by omega) (by decide), b1_some, h6, s1, ← s0]
      by_cases z : (lg_cmp (sureN (b.1 89) m g * oN (b.1 89) m g n c + (cl 1000000 - sureN (b.1 89) m g) * oN (b.1 89) m g n (c + 1)) (cz 0)) = 0
      · rw [if_pos z, if_pos z]
        exact pk_some rfl
      · rw [if_neg z, if_neg z]
        exact pk_nn (pk_some rfl)
    by_cases c0 : c = 0
    · rw [V_cell_neg (show cn c - ci 1 < 0 by rw [c0]; decide), b1_some]
      exact fin (ci 0) (by unfold oN; rw [if_pos c0]; decide)
    · rw [show cn c - ci 1 = cn (c - 1) from cn_sub (b := 1) (by omega) (by omega), V_cellJ (j := 75) (k := c - 1) sh75 (by omega) (by decide), b1_some]
      exact fin _ (by unfold oN; rw [if_neg c0]; exact (u1 (c - 1) (by omega)).1.symm)
  · refine rel_r1 (V_laysO hI K.2.2.2.2 g2 hn hw hm hg) (fun t qt => ?_)
    obtain ⟨t1, t2⟩ := qt
    refine rel_r2 (V_sureS K.2.2.2.2 hn hg hw hm (t2 89 (by decide) (by decide))) (fun v11 s10 qs => ?_)
    obtain ⟨z1o, _, z3o⟩ := qs
    have z1 : v11 = sureN (b.1 89) m g := z1o
    have z3 : s10.2 = t.2 := z3o
    rw [show cn c + ci 1 = cn (c + 1) from cnu (by omega), cn_nat (n := c) (by omega), cn_nat (n := c + 1) (by omega), z3, t1 c (by omega), t1 (c + 1) (by omega), z1]
    have q : v = _ := q
    refine rel_rg ?_
    dsimp only
    refine rel_rg ?_
    by_cases z : (lg_cmp (sureN (b.1 89) m g * oN (b.1 89) m g n c + (cl 1000000 - sureN (b.1 89) m g) * oN (b.1 89) m g n (c + 1)) (cz 0)) = 0
    · rw [if_pos z] at q
      rw [if_pos z]
      exact rel_some q
    · rw [if_neg z] at q
      rw [if_neg z]
      exact rel_rg (rel_some q)
end
end
/-! 5zq6.span -/
section
noncomputable section
/-! THE SHORTEST SPAN -/
def sD (f : Nat → Int64) (s : Nat) : Nat → Int
  | 0 => 0
  | l + 1 => sD f s l + (f (s + l)).toInt
theorem sD_s {f : Nat → Int64} {s l : Nat} : sD f s (l + 1) = sD f s l + (f (s + l)).toInt := rfl
theorem sD_b {f : Nat → Int64} (hf : ∀ i, 0 ≤ (f i).toInt ∧ (f i).toInt ≤ 1000000) (s : Nat) : ∀ l : Nat, 0 ≤ sD f s l ∧ sD f s l ≤ l * 1000000 := by
  intro l
  induction l with
  | zero => exact ⟨Int.le_refl _, Int.le_refl _⟩
  | succ l ih =>
    rw [sD_s]
    have h := hf (s + l)
    generalize (f (s + l)).toInt = F at h
    generalize sD f s l = S at ih
    exact ⟨by omega, by omega⟩
theorem V_chWithin {u : mG} {f : Nat → Int64} (hf : ∀ i, 0 ≤ (f i).toInt ∧ (f i).toInt ≤ 1000000) (hu : ∀ i, i < 13 → Su (u.1 75 i) (f i)) {s l : Nat} (hs : s + l ≤ 12) : pk (F_X0_chanceWithin u (cn s) (cn (s + l))) (fun v => v.toInt = sD f s (l + 1)) := by
  unfold F_X0_chanceWithin F_X0_chanceWithin_L5
  refine pk_whl (fun v => v.1 = cn (s + l) ∧ ∃ k, k ≤ l + 1 ∧ v.2.1.toInt = sD f s k ∧ v.2.2 = cn (s + k)) ⟨rfl, 0, Nat.zero_le _, (show (ci 0).toInt = 0 by decide), rfl⟩ (fun v hv => ?_)
  obtain ⟨x2, x3, x4⟩ := v
  obtain ⟨q0o, k, hk, q1o, q2o⟩ := hv
  have q0 : x2 = cn (s + l) := q0o
  have q1 : x3.toInt = sD f s k := q1o
  have q2 : x4 = cn (s + k) := q2o
  unfold F_X0_chanceWithin_B5
  dsimp only
  rw [q0, q2]
  by_cases hkl : l < k
  · have ek : k = l + 1 := by omega
    rw [if_pos ((cn_lt (by omega) (by omega)).mpr (by omega))]
    rw [ek] at q1
    exact pk_some (show x3.toInt = _ from q1)
  rw [if_neg (fun q => hkl (by have := (cn_lt (by omega) (by omega)).mp q; omega)), V_cellJ (j := 75) (k := s + k) sh75 (by omega) (by decide), b1_some]
  have b1' := (sD_b hf s k)
  have b2' := hf (s + k)
  have e2 := Su_t (hu (s + k) (by omega))
  have c : -2147483648 ≤ sD f s k + (f (s + k)).toInt ∧ sD f s k + (f (s + k)).toInt < 2147483648 := by
    generalize (f (s + k)).toInt = F at b2'
    generalize sD f s k = S at b1'
    exact ⟨by omega, by omega⟩
  exact pk_some (show _ ∧ ∃ k', _ from ⟨rfl, k + 1, by omega, r_add q1 e2.symm c.1 c.2, cnu (by omega)⟩)
/-- the best span: the shortest, then the lowest -/
def Sp (n : Nat) (f : Nat → Int64) (T : Int) (y r : Int32) : Prop := (∃ s l, s + l ≤ n ∧ T ≤ sD f s (l + 1) ∧ (∀ s' l', s' + l' ≤ n → T ≤ sD f s' (l' + 1) → l < l' ∨ (l = l' ∧ s ≤ s')) ∧ r = if y = 0 then cn s else cn (s + l)) ∨ ((∀ s' l', s' + l' ≤ n → ¬ T ≤ sD f s' (l' + 1)) ∧ r = ci (-1))
theorem Sp_u {n : Nat} {f : Nat → Int64} {T : Int} {y r r' : Int32} (h : Sp n f T y r) (k : Sp n f T y r') : r = r' := by
  rcases h with ⟨s, l, h1, h2, h3, h4⟩ | ⟨h1, h2⟩
  · rcases k with ⟨s', l', k1, k2, k3, k4⟩ | ⟨k1, k2⟩
    · have a1 := h3 s' l' k1 k2
      have a2 := k3 s l h1 h2
      have es : s = s' := by omega
      have el : l = l' := by omega
      rw [h4, k4, es, el]
    · exact absurd h2 (k1 s l h1)
  · rcases k with ⟨s', l', k1, k2, k3, k4⟩ | ⟨k1, k2⟩
    · exact absurd k2 (h1 s' l' k1)
    · rw [h2, k2]
theorem V_edgeC {a b : mG} {n nc m : Nat} {x y : Int32} (hI : IM b) (K : HK (b.1 89) n nc a) (h3 : a.1 10 3 = cn m) (hw : b.1 89 115 = cn m) (hm : m ≤ 6) (hx : 0 ≤ x.toInt ∧ x.toInt ≤ 1000) : pk (F_X0_spanEdge x y a) (fun τ => Sp n (dN (b.1 89) m 12 n) (1000 * x.toInt) y τ.1) := by
  have hn := K.2.2.1
  have hf : ∀ i, 0 ≤ (dN (b.1 89) m 12 n i).toInt ∧ (dN (b.1 89) m 12 n i).toInt ≤ 1000000 := dN_r hI hw hm n
  unfold F_X0_spanEdge
  refine pk_b1 (V_countC (sk := 12) hI K h3 hw hm (fun k hk => ⟨fun e => absurd e (cn_ne1 (by omega)), fun e => by omega⟩)) (fun u qu => ?_)
  obtain ⟨u1, u0, u2⟩ := qu
  have Ku : HK (b.1 89) n nc u := HK_low K (fun j h1 h2 => u2 j (by omega) (by omega) (by omega) (by omega) (by omega))
  generalize dN (b.1 89) m 12 n = f at hf u1 ⊢
  have eT : (x * c16 1000).toInt = 1000 * x.toInt := by
    rw [r_mul (rfl : x.toInt = _) (by decide : (c16 1000).toInt = 1000) (by omega) (by omega)]
    omega
  rw [Ku.2.1]
  unfold F_X0_spanEdge_L19
  refine pk_whl (fun v => v.1 = x ∧ v.2.1 = y ∧ v.2.2.1 = cn n ∧ ∃ k, k ≤ n + 1 ∧ v.2.2.2.1 = cn k ∧ (∀ s' l', s' + l' ≤ n → l' < k → ¬ 1000 * x.toInt ≤ sD f s' (l' + 1)) ∧ v.2.2.2.2 = u) ⟨rfl, rfl, rfl, 0, Nat.zero_le _, rfl, fun _ l' _ h => absurd h (by omega), rfl⟩ (fun v hv => ?_)
  obtain ⟨x1, x2, x3, x4, s⟩ := v
  obtain ⟨q0o, q1o, q2o, k, hk, q3o, q4o, q5o⟩ := hv
  have q0 : x1 = x := q0o
  have q1 : x2 = y := q1o
  have q2 : x3 = cn n := q2o
  have q3 : x4 = cn k := q3o
  have q4 : ∀ s' l', s' + l' ≤ n → l' < k → ¬ 1000 * x.toInt ≤ sD f s' (l' + 1) := q4o
  have q5 : s = u := q5o
  unfold F_X0_spanEdge_B19
  dsimp only
  rw [q0, q1, q2, q3, q5]
  by_cases hkn : n < k
  · rw [if_pos ((cn_lt (by omega) (by omega)).mpr hkn)]
    exact pk_some (show Sp n f (1000 * x.toInt) y (ci (-1)) from Or.inr ⟨fun s' l' h => q4 s' l' h (by omega), rfl⟩)
  rw [if_neg (fun q => hkn ((cn_lt (by omega) (by omega)).mp q))]
  unfold F_X0_spanEdge_L28
  refine pk_whl (fun v => v.1 = x ∧ v.2.1 = y ∧ v.2.2.1 = cn n ∧ v.2.2.2.1 = cn k ∧ ∃ p, p + k ≤ n + 1 ∧ v.2.2.2.2.1 = cn p ∧ (∀ s', s' < p → ¬ 1000 * x.toInt ≤ sD f s' (k + 1)) ∧ v.2.2.2.2.2 = u) ⟨rfl, rfl, rfl, rfl, 0, by omega, rfl, fun s' h => absurd h (by omega), rfl⟩ (fun v hv => ?_)
  obtain ⟨y1, y2, y3, y4, y5, t⟩ := v
  obtain ⟨p0o, p1o, p2o, p3o, p, hp, p4o, p5o, p6o⟩ := hv
  have p0 : y1 = x := p0o
  have p1 : y2 = y := p1o
  have p2 : y3 = cn n := p2o
  have p3 : y4 = cn k := p3o
  have p4 : y5 = cn p := p4o
  have p5 : ∀ s', s' < p → ¬ 1000 * x.toInt ≤ sD f s' (k + 1) := p5o
  have p6 : t = u := p6o
  unfold F_X0_spanEdge_B28
  dsimp only
  rw [p0, p1, p2, p3, p4, p6, cn_add (a := p) (b := k) (by omega)]
  by_cases hpn : n < p + k
  · rw [if_pos ((cn_lt (by omega) (by omega)).mpr hpn)]
    refine pk_some (show _ ∧ _ ∧ _ ∧ ∃ k', _ from ⟨rfl, rfl, rfl, k + 1, by omega, cnu (by omega), fun s' l' h1 h2 => ?_, rfl⟩)
    by_cases e : l' = k
    · rw [e]; exact p5 s' (by omega)
    · exact q4 s' l' h1 (by omega)
  rw [if_neg (fun q => hpn ((cn_lt (by omega) (by omega)).mp q))]
  refine pk_b1 (V_chWithin hf u1 (by omega : p + k ≤ 12)) (fun v6 h6 => ?_)
  by_cases hc : 1000 * x.toInt ≤ sD f p (k + 1)
  · have ok : Sp n f (1000 * x.toInt) y (if y = 0 then cn p else cn (p + k)) := Or.inl ⟨p, k, by omega, hc, fun s' l' h1 h2 => by
      by_cases e : l' < k
      · exact absurd h2 (q4 s' l' h1 e)
      · by_cases e2 : l' = k
        · right
          refine ⟨e2.symm, ?_⟩
          by_cases e3 : s' < p
          · rw [e2] at h2
            exact absurd h2 (p5 s' e3)
          · omega
        · left; omega, rfl⟩
    rw [if_neg (fun q => by
      have z := Int32.lt_iff_toInt_lt.mp q
      rw [eT, h6] at z
      exact absurd hc (Int.not_le.mpr z))]
    by_cases hy : y = 0
    · rw [if_pos hy] at ok ⊢
      exact pk_some (show Sp n f (1000 * x.toInt) y (cn p) from ok)
    · rw [if_neg hy] at ok ⊢
      exact pk_some (show Sp n f (1000 * x.toInt) y (cn (p + k)) from ok)
  · rw [if_pos (Int32.lt_iff_toInt_lt.mpr (by rw [eT, h6]; exact Int.not_le.mp hc))]
    refine pk_some (show _ ∧ _ ∧ _ ∧ _ ∧ ∃ p', _ from ⟨rfl, rfl, rfl, rfl, p + 1, by omega, cnu (by omega), fun s' h => ?_, rfl⟩)
    by_cases e : s' = p
    · rw [e]; exact hc
    · exact p5 s' (by omega)
theorem V_longR {t : mG} {n p : Nat} {f : Nat → Int64} {x : Int32} (hf : ∀ i, 0 ≤ (f i).toInt ∧ (f i).toInt ≤ 1000000) (g2 : t.1 89 112 = cn n) (hn : n ≤ 12) (ht : ∀ i, i ≤ n → t.2 98 i = f i) (hp : p ≤ n) (hx : 0 ≤ x.toInt ∧ x.toInt ≤ 1000) : pk (F_X12_longFrom t (cn p) (cl 1000 * x.toInt64)) (fun v => (∃ l, p + l ≤ n ∧ 1000 * x.toInt ≤ sD f p (l + 1) ∧ (∀ l', l' < l → ¬ 1000 * x.toInt ≤ sD f p (l' + 1)) ∧ v = cn (l + 1)) ∨ ((∀ l', p + l' ≤ n → ¬ 1000 * x.toInt ≤ sD f p (l' + 1)) ∧ v = ci (-1))) := by
  have eT : (cl 1000 * x.toInt64).toInt = 1000 * x.toInt := l_mul (by decide : (cl 1000).toInt = 1000) (Int32.toInt_toInt64 x) (by omega) (by omega)
  unfold F_X12_longFrom F_X12_longFrom_L6
  refine pk_whl (fun v => v.1 = cn p ∧ v.2.1 = cl 1000 * x.toInt64 ∧ ∃ l, p + l ≤ n + 1 ∧ v.2.2.1.toInt = sD f p l ∧ v.2.2.2 = cn (p + l) ∧ ∀ l', l' < l → ¬ 1000 * x.toInt ≤ sD f p (l' + 1)) ⟨rfl, rfl, 0, by omega, (show (cz 0).toInt = 0 by decide), rfl, fun l' h => absurd h (by omega)⟩ (fun v hv => ?_)
  obtain ⟨x1, x2, x4, x6⟩ := v
  obtain ⟨q0o, q1o, l, hl, q2o, q3o, q4o⟩ := hv
  have q0 : x1 = cn p := q0o
  have q1 : x2 = cl 1000 * x.toInt64 := q1o
  have q2 : x4.toInt = sD f p l := q2o
  have q3 : x6 = cn (p + l) := q3o
  have q4 : ∀ l', l' < l → ¬ 1000 * x.toInt ≤ sD f p (l' + 1) := q4o
  unfold F_X12_longFrom_B6
  dsimp only
  rw [q0, q1, q3, g2]
  by_cases hln : n < p + l
  · rw [if_pos ((cn_lt (by omega) (by omega)).mpr hln)]
    exact pk_some (show (_ ∨ _) from Or.inr ⟨fun l' h => q4 l' (by omega), rfl⟩)
  rw [if_neg (fun q => hln ((cn_lt (by omega) (by omega)).mp q)), cn_nat (n := p + l) (by omega), ht (p + l) (by omega)]
  refine pk_nn ?_
  have b1' := sD_b hf p l
  have b2' := hf (p + l)
  have c : -9223372036854775808 ≤ sD f p l + (f (p + l)).toInt ∧ sD f p l + (f (p + l)).toInt < 9223372036854775808 := by
    generalize (f (p + l)).toInt = F at b2'
    generalize sD f p l = S at b1'
    exact ⟨by omega, by omega⟩
  have e3 : (x4 + f (p + l)).toInt = sD f p (l + 1) := l_add q2 rfl c.1 c.2
  by_cases hc : 1000 * x.toInt ≤ sD f p (l + 1)
  · rw [if_neg (fun q => by
      have z := Int64.lt_iff_toInt_lt.mp ((lg_cmp_lt _ _).mp q)
      rw [eT, e3] at z
      exact absurd hc (Int.not_le.mpr z)), cn_sub (a := p + l) (b := p) (by omega) (by omega), show p + l - p = l by omega]
    exact pk_some (show (_ ∨ _) from Or.inl ⟨l, by omega, hc, q4, cnu (by omega)⟩)
  · rw [if_pos ((lg_cmp_lt _ _).mpr (Int64.lt_iff_toInt_lt.mpr (by rw [eT, e3]; exact Int.not_le.mp hc)))]
    refine pk_some (show _ ∧ _ ∧ ∃ l', _ from ⟨rfl, rfl, l + 1, by omega, e3, cnu (by omega), fun l' h => ?_⟩)
    by_cases e : l' = l
    · rw [e]; exact hc
    · exact q4 l' (by omega)
/-- the best up to here -/
def Bp (n p : Nat) (f : Nat → Int64) (T : Int) (x3 x4 : Int32) : Prop := (∃ s l, s < p ∧ s + l ≤ n ∧ T ≤ sD f s (l + 1) ∧ (∀ s' l', s' < p → s' + l' ≤ n → T ≤ sD f s' (l' + 1) → l < l' ∨ (l = l' ∧ s ≤ s')) ∧ x3 = cn (l + 1) ∧ x4 = cn s) ∨ ((∀ s' l', s' < p → s' + l' ≤ n → ¬ T ≤ sD f s' (l' + 1)) ∧ x3 = ci (-1) ∧ x4 = ci (-1))
theorem V_spanR {t : mG} {n : Nat} {f : Nat → Int64} {x y : Int32} (hf : ∀ i, 0 ≤ (f i).toInt ∧ (f i).toInt ≤ 1000000) (g2 : t.1 89 112 = cn n) (hn : n ≤ 12) (ht : ∀ i, i ≤ n → t.2 98 i = f i) (hx : 0 ≤ x.toInt ∧ x.toInt ≤ 1000) : pk (F_X12_span_L34 x y (ci (-1)) (ci (-1)) (ci 0) t) (fun τ => Sp n f (1000 * x.toInt) y τ.1) := by
  unfold F_X12_span_L34
  refine pk_whl (fun v => v.1 = x ∧ v.2.1 = y ∧ ∃ p, p ≤ n + 1 ∧ v.2.2.2.2.1 = cn p ∧ Bp n p f (1000 * x.toInt) v.2.2.1 v.2.2.2.1 ∧ v.2.2.2.2.2 = t) ⟨rfl, rfl, 0, Nat.zero_le _, rfl, Or.inr ⟨fun s' l' h => absurd h (by omega), rfl, rfl⟩, rfl⟩ (fun v hv => ?_)
  obtain ⟨x1, x2, x3, x4, x5, s⟩ := v
  obtain ⟨q0o, q1o, p, hp, q2o, q3o, q4o⟩ := hv
  have q0 : x1 = x := q0o
  have q1 : x2 = y := q1o
  have q2 : x5 = cn p := q2o
  have q3 : Bp n p f (1000 * x.toInt) x3 x4 := q3o
  have q4 : s = t := q4o
  unfold F_X12_span_B34 F_X12_span_80 F_X12_span_87 F_X12_span_103
  dsimp only
  rw [q0, q1, q2, q4, g2]
  by_cases hpn : n < p
  · rw [if_pos ((cn_lt (by omega) (by omega)).mpr hpn)]
    rcases q3 with ⟨z, l, h1, h2, h3, h4, h5, h6⟩ | ⟨h1, h2, h3⟩
    · rw [if_neg (show ¬ x4 = ci (-1) by rw [h6]; exact cn_ne1 (by omega))]
      have ok : Sp n f (1000 * x.toInt) y (if y = 0 then cn z else cn (z + l)) := Or.inl ⟨z, l, h2, h3, fun s' l' k1 k2 => h4 s' l' (by omega) k1 k2, rfl⟩
      by_cases hy : y = 0
      · rw [if_pos hy] at ok ⊢
        rw [b1_some]
        exact pk_some (show Sp n f (1000 * x.toInt) y x4 from by rw [h6]; exact ok)
      · rw [if_neg hy] at ok ⊢
        refine pk_some (show Sp n f (1000 * x.toInt) y ((x4 + x3) - ci 1) from ?_)
        rw [h6, h5, cn_add (a := z) (b := l + 1) (by omega), show cn (z + (l + 1)) - ci 1 = cn (z + (l + 1) - 1) from cn_sub (b := 1) (by omega) (by omega), show z + (l + 1) - 1 = z + l by omega]
        exact ok
    · rw [if_pos h3, b1_some]
      exact pk_some (show Sp n f (1000 * x.toInt) y x4 from by rw [h3]; exact Or.inr ⟨fun s' l' k1 => h1 s' l' (by omega) k1, rfl⟩)
  rw [if_neg (fun q => hpn ((cn_lt (by omega) (by omega)).mp q))]
  refine pk_b1 (V_longR hf g2 hn ht (by omega : p ≤ n) hx) (fun v13 h13 => ?_)
  have nx : ∀ z3 z4, Bp n (p + 1) f (1000 * x.toInt) z3 z4 → pk (some (Sum.inl (x, y, z3, z4, cn p + ci 1, t)) : Option ((Int32 × Int32 × Int32 × Int32 × Int32 × mG) ⊕ (Int32 × mG))) (se (fun v : Int32 × Int32 × Int32 × Int32 × Int32 × mG => v.1 = x ∧ v.2.1 = y ∧ ∃ p, p ≤ n + 1 ∧ v.2.2.2.2.1 = cn p ∧ Bp n p f (1000 * x.toInt) v.2.2.1 v.2.2.2.1 ∧ v.2.2.2.2.2 = t) (fun τ : Int32 × mG => Sp n f (1000 * x.toInt) y τ.1)) := fun z3 z4 hz => pk_some (show _ ∧ _ ∧ ∃ p', _ from ⟨rfl, rfl, p + 1, by omega, cnu (by omega), hz, rfl⟩)
  rcases h13 with ⟨l, h1, h2, h3, h4⟩ | ⟨h1, h2⟩
  · rw [if_neg (show ¬ v13 = ci (-1) by rw [h4]; exact cn_ne1 (by omega))]
    rcases q3 with ⟨z, l0, k1, k2, k3, k4, k5, k6⟩ | ⟨k1, k2, k3⟩
    · rw [if_neg (show ¬ x3 = ci (-1) by rw [k5]; exact cn_ne1 (by omega))]
      by_cases hl : l < l0
      · rw [if_pos (show v13 < x3 by rw [h4, k5]; exact (cn_lt (by omega) (by omega)).mpr (by omega))]
        refine nx _ _ (Or.inl ⟨p, l, by omega, h1, h2, fun s' l' e1 e2 e3 => ?_, h4, rfl⟩)
        by_cases e : s' = p
        · rw [e] at e3
          by_cases f1 : l' < l
          · exact absurd e3 (h3 l' f1)
          · omega
        · have := k4 s' l' (by omega) e2 e3
          omega
      · rw [if_neg (show ¬ v13 < x3 by rw [h4, k5]; exact fun q => hl (by have := (cn_lt (by omega) (by omega)).mp q; omega))]
        refine nx _ _ (Or.inl ⟨z, l0, by omega, k2, k3, fun s' l' e1 e2 e3 => ?_, k5, k6⟩)
        by_cases e : s' = p
        · rw [e] at e3
          by_cases f1 : l' < l
          · exact absurd e3 (h3 l' f1)
          · omega
        · exact k4 s' l' (by omega) e2 e3
    · rw [if_pos k2]
      refine nx _ _ (Or.inl ⟨p, l, by omega, h1, h2, fun s' l' e1 e2 e3 => ?_, h4, rfl⟩)
      by_cases e : s' = p
      · rw [e] at e3
        by_cases f1 : l' < l
        · exact absurd e3 (h3 l' f1)
        · omega
      · exact absurd e3 (k1 s' l' (by omega) e2)
  · rw [if_pos h2]
    refine nx _ _ ?_
    rcases q3 with ⟨z, l0, k1, k2, k3, k4, k5, k6⟩ | ⟨k1, k2, k3⟩
    · refine Or.inl ⟨z, l0, by omega, k2, k3, fun s' l' e1 e2 e3 => ?_, k5, k6⟩
      by_cases e : s' = p
      · rw [e] at e2 e3
        exact absurd e3 (h1 l' e2)
      · exact k4 s' l' (by omega) e2 e3
    · refine Or.inr ⟨fun s' l' e1 e2 => ?_, k2, k3⟩
      by_cases e : s' = p
      · rw [e] at e2 ⊢
        exact h1 l' e2
      · exact k1 s' l' (by omega) e2
theorem R_span {a b : mG} {x y : Int32} (hI : IM b) (h : SIM a b) : rel (F_X11_span x y a) (F_X12_span x y b) (fun τ υ => τ.1 = υ.1) := by
  obtain ⟨n, nc, m, K, g2, V, hm, h3, hw⟩ := SIM_S h
  have hn := K.2.2.1
  unfold F_X11_span F_X12_span F_X11_span_20 F_X12_span_20 F_X11_span_37
  rw [V_within, F_isIn, b1_some, b1_some]
  refine rel_ifs Iff.rfl (fun _ => rel_some rfl) (fun hx => ?_)
  have hx2 := wi_f hx
  rw [show (ci 0).toInt = 0 by decide, show (c16 1000).toInt = 1000 by decide] at hx2
  rw [V_within, F_isIn, b1_some, b1_some]
  refine rel_ifs Iff.rfl (fun _ => rel_some rfl) (fun hy => ?_)
  refine rel_r1 (V_laysC K.2.2.2.2 g2 hn hw hm (fun _ _ _ => rfl)) (fun t qt => ?_)
  obtain ⟨t1, t2⟩ := qt
  have R := V_spanR (y := y) (dN_r hI hw hm n) (by rw [t2 89 (by decide) (by decide)]; exact g2) hn t1 hx2
  obtain ⟨c, hc, ey⟩ := wi_cn (l := 1) (by omega) hy
  rcases (show c = 0 ∨ c = 1 by omega) with e | e <;> rw [e] at ey
  · rw [if_neg (show ¬ y = ci 1 by rw [ey]; decide)]
    refine rel_l2 (V_edgeC (y := ci 0) hI K h3 hw hm hx2) (fun v s q => ?_)
    exact rel_sp R (fun v' qv => show v = v'.1 from Sp_u q (by rw [show y = ci 0 from ey] at qv; exact qv))
  · rw [if_pos (show y = ci 1 from ey)]
    refine rel_l2 (V_edgeC (y := ci 1) hI K h3 hw hm hx2) (fun v s q => ?_)
    exact rel_sp R (fun v' qv => show v = v'.1 from Sp_u q (by rw [show y = ci 1 from ey] at qv; exact qv))
end
end
/-! 5zu1.search -/
section
noncomputable section
/-! THE SEARCH THROUGH THE FLOORS -/
/-- the minutes from floor a to floor k -/
def flC (a k : Nat) : Nat := if a ≤ k then 3 + 2 * (k - a) else 3 + 2 * (a - k)
/-- floor k lies in the set y -/
def vbB (y k : Nat) : Bool := y / 2 ^ k % 2 == 1
def vbN (y : Nat) : Nat := y % 2 + y / 2 % 2 + y / 4 % 2 + y / 8 % 2
theorem fl_neg : ∀ m, m < 100 → ∀ a, a < 4 → ∀ k, k < 4 → ((cn m - ci 3) - (ci 2 * iabs (cn k - cn a)) < 0 ↔ m < flC a k) := by decide +kernel
theorem fl_pos : ∀ m, m < 100 → ∀ a, a < 4 → ∀ k, k < 4 → flC a k ≤ m → (cn m - ci 3) - (ci 2 * iabs (cn k - cn a)) = cn (m - flC a k) := by decide +kernel
theorem fl_qd : ∀ a, a < 4 → ∀ k, k < 4 → ci 3 + (ci 2 * (if a ≤ k then cn k - cn a else cn a - cn k)) = cn (flC a k) := by decide +kernel
theorem fl_bit : ∀ y, y < 16 → ∀ k, k < 4 → ((cn y >>> (cn k &&& 31)) &&& ci 1 = 0 ↔ ¬ vbB y k = true) := by decide +kernel
theorem fl_add1 : ∀ y, y < 16 → ∀ k, k < 4 → ¬ vbB y k = true → y + 2 ^ k < 16 := by decide +kernel
theorem fl_add2 : ∀ y, y < 16 → ∀ k, k < 4 → ¬ vbB y k = true → cn y ||| (ci 1 <<< (cn k &&& 31)) = cn (y + 2 ^ k) := by decide +kernel
theorem fl_add3 : ∀ y, y < 16 → ∀ k, k < 4 → ¬ vbB y k = true → vbN (y + 2 ^ k) = vbN y + 1 := by decide +kernel
theorem fl_add4 : ∀ y, y < 16 → ∀ k, k < 4 → ¬ vbB y k = true → ∀ i, i < 4 → (vbB (y + 2 ^ k) i = true ↔ vbB y i = true ∨ i = k) := by decide +kernel
theorem fl_add (y : Nat) (hy : y < 16) (k : Nat) (hk : k < 4) (h : ¬ vbB y k = true) : y + 2 ^ k < 16 ∧ cn y ||| (ci 1 <<< (cn k &&& 31)) = cn (y + 2 ^ k) ∧ vbN (y + 2 ^ k) = vbN y + 1 ∧ ∀ i, i < 4 → (vbB (y + 2 ^ k) i = true ↔ vbB y i = true ∨ i = k) := ⟨fl_add1 y hy k hk h, fl_add2 y hy k hk h, fl_add3 y hy k hk h, fl_add4 y hy k hk h⟩
theorem fl_all : ∀ y, y < 16 → vbN y = 4 → ∀ i, i < 4 → vbB y i = true := by decide +kernel
theorem fl_four : ∀ y, y < 16 → vbN y ≤ 4 := by decide +kernel
/-- the path so far, and its set -/
def SrV (p : Nat → Nat) (d y : Nat) : Prop := y < 16 ∧ vbN y = d ∧ (∀ j, j < d → p j < 4) ∧ ∀ i, i < 4 → (vbB y i = true ↔ ∃ j, j < d ∧ p j = i)
/-- both sides -/
def SrP (p : Nat → Nat) (d : Nat) (e : Nat → Int64) (s t : mG) : Prop := s.2 83 7 = t.2 88 31 ∧ (∃ l, l ≤ 4 ∧ s.1 83 6 = cn l ∧ t.1 88 32 = cn l ∧ ∀ i, i < l → s.1 87 i = t.1 102 i) ∧ (∀ j, j < d → s.1 86 j = cn (p j) ∧ t.1 101 j = cn (p j)) ∧ ∀ k, k < 4 → (s.1 85 k).toInt64 = e k ∧ t.2 100 k = e k
def SrH (f : Int32 → Int32 → Int32 → Int32 → Int64 → mG → Option mG) (g : Int32 → Int32 → Int32 → Int64 → mG → Option mG) (e : Nat → Int64) : Prop := ∀ (d : Nat) (p : Nat → Nat) (y a m : Nat) (z : Int64) (s t : mG), SrV p d y → a < 4 → m < 100 → SrP p d e s t → rel (f (cn m) (cn a) (cn y) (cn d) z s) (g (cn d) (cn a) (cn m) z t) (SrP p d e)
def VFq (y k : Nat) : Int32 := if vbB y k = true then ci 1 else ci 0
def qdq (a k : Nat) : Int32 := if a ≤ k then cn k - cn a else cn a - cn k
theorem V_visR {g : Int32 → Int32 → Int32 → Int64 → mG → Option mG} {d y a m k : Nat} {p : Nat → Nat} {z : Int64} {t : mG} (hv : SrV p d y) (ha : a < 4) (hk : k < 4) (h101 : ∀ j, j < d → t.1 101 j = cn (p j)) : pk (F_X12_searches_L65 g (cn d) (cn a) (cn m) z (cn k) (ci 0) (ci 0) t) (fun r => F_X12_searches_120 g (cn d) (cn a) (cn m) z (cn k) (VFq y k) (ci 3) (ci 2) (qdq a k) t = some r) := by
  obtain ⟨hy, hd, hp, hb⟩ := hv
  have d4 : d ≤ 4 := by rw [← hd]; exact fl_four y hy
  unfold F_X12_searches_L65
  refine pk_whl (fun v => ∃ (j : Nat) (fl : Int32), j ≤ d ∧ v = (cn d, cn a, cn m, z, cn k, fl, cn j, t) ∧ ((fl = ci 0 ∧ ∀ i, i < j → ¬ p i = k) ∨ (fl = ci 1 ∧ ∃ i, i < j ∧ p i = k))) ⟨0, ci 0, Nat.zero_le _, rfl, Or.inl ⟨rfl, fun i hi => absurd hi (by omega)⟩⟩ (fun v hv2 => ?_)
  obtain ⟨j, fl, hj, ev, hfl⟩ := hv2
  rw [ev]
  unfold F_X12_searches_B65 F_X12_searches_88 F_X12_searches_93
  dsimp only
  by_cases hjd : d ≤ j
  · have ej : j = d := by omega
    have ef : fl = VFq y k := by
      unfold VFq
      rcases hfl with ⟨h1, h2⟩ | ⟨h1, i, h2, h3⟩
      · rw [h1, if_neg (fun q => by
          obtain ⟨i, hi, e⟩ := (hb k hk).mp q
          exact h2 i (by omega) e)]
      · rw [h1, if_pos ((hb k hk).mpr ⟨i, by omega, h3⟩)]
    rw [if_pos ((cn_le (by omega) (by omega)).mpr hjd), ef]
    unfold qdq
    by_cases hak : a ≤ k
    · rw [if_pos ((cn_le (by omega) (by omega)).mpr hak), if_pos hak]
      exact pk_b1r (fun r hr => hr)
    · rw [if_neg (fun q => hak ((cn_le (by omega) (by omega)).mp q)), if_neg hak]
      exact pk_b1r (fun r hr => hr)
  rw [if_neg (fun q => hjd ((cn_le (by omega) (by omega)).mp q)), cn_nat (n := j) (by omega)]
  rcases hfl with ⟨h1, h2⟩ | ⟨h1, i, h2, h3⟩
  · rw [h1, if_pos c0e0, h101 j (by omega)]
    refine pk_nn ?_
    have pj := hp j (by omega)
    by_cases e : p j = k
    · rw [if_pos (show cn (p j) = cn k by rw [e])]
      exact pk_some (show ∃ (j' : Nat) (fl : Int32), _ from ⟨j + 1, ci 1, by omega, by rw [cnu (by omega)], Or.inr ⟨rfl, j, by omega, e⟩⟩)
    · rw [if_neg (fun q => e ((cn_inj (by omega) (by omega)).mp q))]
      exact pk_some (show ∃ (j' : Nat) (fl : Int32), _ from ⟨j + 1, ci 0, by omega, by rw [cnu (by omega)], Or.inl ⟨rfl, fun i hi => by
        by_cases ei : i = j
        · rw [ei]; exact e
        · exact h2 i (by omega)⟩⟩)
  · rw [h1, if_neg c1n0]
    exact pk_some (show ∃ (j' : Nat) (fl : Int32), _ from ⟨j + 1, ci 1, by omega, by rw [cnu (by omega)], Or.inr ⟨rfl, i, by omega, h3⟩⟩)
end
end
/-! 5zu2.search -/
section
noncomputable section
/-! THE SEARCH, on both sides -/
theorem rel_via {α β : Type} {x : Option α} {y y' : Option β} {R : α → β → Prop} (h : pk y (fun r => y' = some r)) (k : rel x y' R) : rel x y R := fun u hu v hv => k u hu v (h v hv)
theorem muL_sameQ {D : Nat → Nat → Int32} {E : Nat → Nat → Int64} {i k : Nat} {v : Int64} : ((D, muL E i k v) : mG).2 i k = v := muL_same
theorem SrV_4 {p : Nat → Nat} {d y : Nat} (h : SrV p d y) : d ≤ 4 := by
  obtain ⟨hy, hd, _⟩ := h
  rw [← hd]
  exact fl_four y hy
theorem SrV_add {p : Nat → Nat} {d y k : Nat} (h : SrV p d y) (hk : k < 4) (hn : ¬ vbB y k = true) : SrV (fun j => if j = d then k else p j) (d + 1) (y + 2 ^ k) := by
  obtain ⟨hy, hd, hp, hb⟩ := h
  obtain ⟨a1, _, a3, a4⟩ := fl_add y hy k hk hn
  refine ⟨a1, by rw [a3, hd], fun j hj => ?_, fun i hi => ?_⟩
  · show (if j = d then k else p j) < 4
    by_cases e : j = d
    · rw [if_pos e]; exact hk
    · rw [if_neg e]; exact hp j (by omega)
  · rw [a4 i hi, hb i hi]
    constructor
    · intro q
      rcases q with ⟨j, hj, e⟩ | e
      · exact ⟨j, by omega, by show (if j = d then k else p j) = i; rw [if_neg (by omega)]; exact e⟩
      · exact ⟨d, by omega, by show (if d = d then k else p d) = i; rw [if_pos rfl]; exact e.symm⟩
    · rintro ⟨j, hj, e⟩
      have e : (if j = d then k else p j) = i := e
      by_cases ej : j = d
      · rw [if_pos ej] at e; exact Or.inr e.symm
      · rw [if_neg ej] at e; exact Or.inl ⟨j, by omega, e⟩
theorem R_rest {f : Int32 → Int32 → Int32 → Int32 → Int64 → mG → Option mG} {g : Int32 → Int32 → Int32 → Int64 → mG → Option mG} {e : Nat → Int64} (H : SrH f g e) {d : Nat} {p : Nat → Nat} {y a m : Nat} {z : Int64} {s t : mG} (hv : SrV p d y) (ha : a < 4) (hm : m < 100) (h : SrP p d e s t) : rel (F_X9_searchOn_62 f (cn m) (cn a) (cn y) (cn d) z s) (F_X12_searches_50 g (cn d) (cn a) (cn m) z t) (SrP p d e) := by
  have d4 := SrV_4 hv
  unfold F_X9_searchOn_62 F_X12_searches_50
  by_cases hd : d = 4
  · have R : pk (F_X12_searches_L53 g (cn d) (cn a) (cn m) z (ci 0) t) (fun u => u = t) := by
      unfold F_X12_searches_L53
      refine pk_whl (fun v => ∃ k : Nat, k ≤ 4 ∧ v = (cn d, cn a, cn m, z, cn k, t)) ⟨0, by omega, rfl⟩ (fun v hv2 => ?_)
      obtain ⟨k, hk, ev⟩ := hv2
      rw [ev]
      unfold F_X12_searches_B53
      dsimp only
      by_cases h4 : 4 ≤ k
      · rw [if_pos (show ci 4 ≤ cn k from (cn_le (a := 4) (by omega) (by omega)).mpr h4)]
        exact pk_some (show t = t from rfl)
      rw [if_neg (show ¬ ci 4 ≤ cn k from fun q => h4 ((cn_le (a := 4) (by omega) (by omega)).mp q))]
      refine fun r hr => ?_
      have q := V_visR hv ha (by omega : k < 4) (fun j hj => (h.2.2.1 j hj).2) r hr
      unfold F_X12_searches_120 F_X12_searches_169 at q
      unfold VFq at q
      rw [if_pos (fl_all y hv.1 (by rw [hv.2.1, hd]) k (by omega)), if_neg c1n0] at q
      rw [← Option.some.inj q]
      exact (show ∃ k' : Nat, _ from ⟨k + 1, by omega, by rw [cnu (by omega)]⟩)
    unfold F_X9_searchOn_L65
    have L : pk (whl (fun (v : (Int32 × Int32 × Int32 × Int32 × Int64 × Int32 × mG)) => F_X9_searchOn_B65 f v.1 v.2.1 v.2.2.1 v.2.2.2.1 v.2.2.2.2.1 v.2.2.2.2.2.1 v.2.2.2.2.2.2) (cn m, cn a, cn y, cn d, z, ci 0, s)) (fun u => u = s) := by
      refine pk_whl (fun v => v = (cn m, cn a, cn y, cn d, z, ci 0, s)) rfl (fun v hv2 => ?_)
      rw [hv2]
      unfold F_X9_searchOn_B65
      dsimp only
      rw [if_neg (show ¬ ci 4 ≤ ci 0 by decide), if_pos (show ci 4 ≤ cn d from (cn_le (a := 4) (by omega) (by omega)).mpr (by omega))]
      exact pk_some (show s = s from rfl)
    exact rel_pk L R (fun u v q1 q2 => by rw [q1, q2]; exact h)
  unfold F_X9_searchOn_L65 F_X12_searches_L53
  refine rel_whl (fun v w => ∃ (k : Nat) (s' t' : mG), k ≤ 4 ∧ v = (cn m, cn a, cn y, cn d, z, cn k, s') ∧ w = (cn d, cn a, cn m, z, cn k, t') ∧ SrP p d e s' t') ⟨0, s, t, by omega, rfl, rfl, h⟩ (fun v w hvw => ?_)
  obtain ⟨k, s', t', hk, ev, ew, h'⟩ := hvw
  rw [ev, ew]
  unfold F_X9_searchOn_B65 F_X12_searches_B53
  dsimp only
  by_cases h4 : 4 ≤ k
  · rw [if_pos (show ci 4 ≤ cn k from (cn_le (a := 4) (by omega) (by omega)).mpr h4), if_pos (show ci 4 ≤ cn k from (cn_le (a := 4) (by omega) (by omega)).mpr h4)]
    exact rel_some (show SrP p d e s' t' from h')
  rw [if_neg (show ¬ ci 4 ≤ cn k from fun q => h4 ((cn_le (a := 4) (by omega) (by omega)).mp q)), if_neg (show ¬ ci 4 ≤ cn k from fun q => h4 ((cn_le (a := 4) (by omega) (by omega)).mp q)), if_neg (show ¬ ci 4 ≤ cn d from fun q => hd (by have := (cn_le (a := 4) (by omega) (by omega)).mp q; omega))]
  have hk4 : k < 4 := by omega
  have on : ∀ (s1 t1 : mG), SrP p d e s1 t1 → ∃ (k' : Nat) (s' t' : mG), k' ≤ 4 ∧ ((cn m, cn a, cn y, cn d, z, cn k + ci 1, s1) : Int32 × Int32 × Int32 × Int32 × Int64 × Int32 × mG) = (cn m, cn a, cn y, cn d, z, cn k', s') ∧ ((cn d, cn a, cn m, z, cn k + ci 1, t1) : Int32 × Int32 × Int32 × Int64 × Int32 × mG) = (cn d, cn a, cn m, z, cn k', t') ∧ SrP p d e s' t' := fun s1 t1 q => ⟨k + 1, s1, t1, by omega, by rw [cnu (by omega)], by rw [cnu (by omega)], q⟩
  refine rel_via (V_visR hv ha hk4 (fun j hj => (h'.2.2.1 j hj).2)) ?_
  unfold F_X12_searches_120 F_X12_searches_169 F_X9_searchOn_148
  unfold VFq
  by_cases hb : vbB y k = true
  · rw [if_pos hb, if_neg c1n0, if_neg (fun q => (fl_bit y hv.1 k hk4).mp q hb)]
    exact rel_some (on s' t' h')
  rw [if_neg hb, if_pos c0e0, if_pos ((fl_bit y hv.1 k hk4).mpr hb), show ci 3 + (ci 2 * qdq a k) = cn (flC a k) from fl_qd a ha k hk4]
  have c9 : flC a k ≤ 9 := by
    unfold flC
    by_cases hak : a ≤ k
    · rw [if_pos hak]; omega
    · rw [if_neg hak]; omega
  by_cases hc : m < flC a k
  · rw [if_pos ((fl_neg m hm a ha k hk4).mpr hc), if_neg (fun q => by have := (cn_le (by omega) (by omega)).mp q; omega)]
    exact rel_some (on s' t' h')
  rw [if_neg (fun q => hc ((fl_neg m hm a ha k hk4).mp q)), if_pos ((cn_le (by omega) (by omega)).mpr (by omega)), fl_pos m hm a ha k hk4 (by omega), V_putJ sh86 (by omega) (by decide), b1_some, V_cellJ sh85 hk4 (by decide), b1_some, cn_nat (n := d) (by omega), cn_nat (n := k) (by omega), (fl_add y hv.1 k hk4 hb).2.1, cnu (by omega), cn_sub (by omega) (by omega)]
  refine rel_rg (rel_rg ?_)
  obtain ⟨g1, g2, g3, g4⟩ := h'
  rw [show ((mu s'.1 86 d (cn k), s'.2) : mG).1 85 k = s'.1 85 k from mu_cellP (Or.inl (by decide)), (g4 k hk4).1, show ((mu t'.1 101 d (cn k), t'.2) : mG).2 100 k = e k from (g4 k hk4).2]
  have hN : SrP (fun j => if j = d then k else p j) (d + 1) e (mu s'.1 86 d (cn k), s'.2) (mu t'.1 101 d (cn k), t'.2) := by
    obtain ⟨l, l4, l1, l2, l3⟩ := g2
    refine ⟨g1, ⟨l, l4, (mu_cellQ (i := 86) (j := 83) (Or.inl (by decide))).trans l1, (mu_cellQ (i := 101) (j := 88) (Or.inl (by decide))).trans l2, fun i hi => ?_⟩, fun j hj => ?_, fun i hi => ⟨?_, (g4 i hi).2⟩⟩
    · show mu s'.1 86 d (cn k) 87 i = mu t'.1 101 d (cn k) 102 i
      rw [mu_cell (Or.inl (by decide)), mu_cell (Or.inl (by decide))]
      exact l3 i hi
    · show mu s'.1 86 d (cn k) 86 j = cn (if j = d then k else p j) ∧ mu t'.1 101 d (cn k) 101 j = cn (if j = d then k else p j)
      by_cases ej : j = d
      · rw [ej, mu_same, mu_same, if_pos rfl]
        exact ⟨rfl, rfl⟩
      · rw [mu_cell (Or.inr ej), mu_cell (Or.inr ej), if_neg ej]
        exact g3 j (by omega)
    · show (mu s'.1 86 d (cn k) 85 i).toInt64 = e i
      rw [mu_cell (Or.inl (by decide))]
      exact (g4 i hi).1
  refine rel_b1 (H (d + 1) _ (y + 2 ^ k) k (m - flC a k) (z + e k) _ _ (SrV_add hv hk4 hb) hk4 (by omega) hN) (fun u1 v1 q1 => ?_)
  obtain ⟨w1, w2, w3, w4⟩ := q1
  exact rel_some (on u1 v1 ⟨w1, w2, fun j hj => by
    have x : u1.1 86 j = cn (if j = d then k else p j) ∧ v1.1 101 j = cn (if j = d then k else p j) := w3 j (by omega)
    rw [if_neg (show ¬ j = d by omega)] at x
    exact x, w4⟩)
theorem R_copyS {f : Int32 → Int32 → Int32 → Int32 → Int64 → mG → Option mG} {g : Int32 → Int32 → Int32 → Int64 → mG → Option mG} {e : Nat → Int64} (H : SrH f g e) {d : Nat} {p : Nat → Nat} {y a m : Nat} {z : Int64} {s t : mG} (hv : SrV p d y) (ha : a < 4) (hm : m < 100) (h1 : s.2 83 7 = t.2 88 31) (h2 : s.1 83 6 = cn d) (h3 : t.1 88 32 = cn d) (h4 : ∀ j, j < d → s.1 86 j = cn (p j) ∧ t.1 101 j = cn (p j)) (h5 : ∀ k, k < 4 → (s.1 85 k).toInt64 = e k ∧ t.2 100 k = e k) : rel (F_X9_searchOn_L25 f (cn m) (cn a) (cn y) (cn d) z (ci 0) s) (F_X12_searches_L24 g (cn d) (cn a) (cn m) z (ci 0) t) (SrP p d e) := by
  have d4 := SrV_4 hv
  unfold F_X9_searchOn_L25 F_X12_searches_L24
  refine rel_whl (fun v w => ∃ (k : Nat) (s' t' : mG), k ≤ d ∧ v = (cn m, cn a, cn y, cn d, z, cn k, s') ∧ w = (cn d, cn a, cn m, z, cn k, t') ∧ s'.2 83 7 = t'.2 88 31 ∧ s'.1 83 6 = cn d ∧ t'.1 88 32 = cn d ∧ (∀ i, i < k → s'.1 87 i = t'.1 102 i) ∧ (∀ j, j < d → s'.1 86 j = cn (p j) ∧ t'.1 101 j = cn (p j)) ∧ ∀ k, k < 4 → (s'.1 85 k).toInt64 = e k ∧ t'.2 100 k = e k) ⟨0, s, t, Nat.zero_le _, rfl, rfl, h1, h2, h3, fun i hi => absurd hi (by omega), h4, h5⟩ (fun v w hvw => ?_)
  obtain ⟨k, s', t', hk, ev, ew, g1, g2, g3, g6, g4, g5⟩ := hvw
  rw [ev, ew]
  unfold F_X9_searchOn_B25 F_X12_searches_B24
  dsimp only
  by_cases hdk : d ≤ k
  · have ek : k = d := by omega
    rw [if_pos ((cn_le (by omega) (by omega)).mpr hdk), if_pos ((cn_le (by omega) (by omega)).mpr hdk)]
    rw [ek] at g6
    exact rel_b1 (R_rest H hv ha hm ⟨g1, ⟨d, d4, g2, g3, g6⟩, g4, g5⟩) (fun u1 v1 q1 => rel_some (show SrP p d e u1 v1 from q1))
  rw [if_neg (fun q => hdk ((cn_le (by omega) (by omega)).mp q)), if_neg (fun q => hdk ((cn_le (by omega) (by omega)).mp q)), if_neg (show ¬ ci 4 ≤ cn k from fun q => by have := (cn_le (a := 4) (by omega) (by omega)).mp q; omega), V_cellJ sh86 (by omega) (by decide), b1_some, V_putJ sh87 (by omega) (by decide), b1_some, cn_nat (n := k) (by omega)]
  refine rel_rg (rel_rg (rel_some (show ∃ (k' : Nat) (s'' t'' : mG), _ from ⟨k + 1, (mu s'.1 87 k (s'.1 86 k), s'.2), (mu t'.1 102 k (t'.1 101 k), t'.2), by omega, by rw [cnu (by omega)], by rw [cnu (by omega)], g1, (mu_cellQ (i := 87) (j := 83) (Or.inl (by decide))).trans g2, (mu_cellQ (i := 102) (j := 88) (Or.inl (by decide))).trans g3, fun i hi => ?_, fun j hj => ?_, fun i hi => ⟨?_, (g5 i hi).2⟩⟩)))
  · show mu s'.1 87 k (s'.1 86 k) 87 i = mu t'.1 102 k (t'.1 101 k) 102 i
    by_cases ei : i = k
    · rw [ei, mu_same, mu_same, (g4 k (by omega)).1, (g4 k (by omega)).2]
    · rw [mu_cell (Or.inr ei), mu_cell (Or.inr ei)]
      exact g6 i (by omega)
  · show mu s'.1 87 k (s'.1 86 k) 86 j = cn (p j) ∧ mu t'.1 102 k (t'.1 101 k) 101 j = cn (p j)
    rw [mu_cell (Or.inl (by decide)), mu_cell (Or.inl (by decide))]
    exact g4 j hj
  · show (mu s'.1 87 k (s'.1 86 k) 85 i).toInt64 = e i
    rw [mu_cell (Or.inl (by decide))]
    exact (g5 i hi).1
theorem SrH_step {f : Int32 → Int32 → Int32 → Int32 → Int64 → mG → Option mG} {g : Int32 → Int32 → Int32 → Int64 → mG → Option mG} {e : Nat → Int64} (H : SrH f g e) : SrH (F_X9_searchOn f) (F_X12_searches g) e := by
  intro d p y a m z s t hv ha hm h
  unfold F_X9_searchOn F_X12_searches
  refine rel_ifs (by rw [h.1]) (fun _ => R_rest H hv ha hm h) (fun _ => ?_)
  obtain ⟨g1, g2, g3, g4⟩ := h
  show rel (F_X9_searchOn_L25 f (cn m) (cn a) (cn y) (cn d) z (ci 0) (mu s.1 83 6 (cn d), muL s.2 83 7 z)) (F_X12_searches_L24 g (cn d) (cn a) (cn m) z (ci 0) (mu t.1 88 32 (cn d), muL t.2 88 31 z)) _
  exact R_copyS H hv ha hm (muL_sameQ.trans muL_sameQ.symm) mu_sameQ mu_sameQ (fun j hj => ⟨(mu_cellQ (i := 83) (j := 86) (Or.inl (by decide))).trans (g3 j hj).1, (mu_cellQ (i := 88) (j := 101) (Or.inl (by decide))).trans (g3 j hj).2⟩) (fun k hk => ⟨by
    show (mu s.1 83 6 (cn d) 85 k).toInt64 = e k
    rw [mu_cell (Or.inl (by decide))]
    exact (g4 k hk).1, by
    show muL t.2 88 31 z 100 k = e k
    rw [muL_cell (Or.inl (by decide))]
    exact (g4 k hk).2⟩)
theorem SrH_all {e : Nat → Int64} : ∀ n n' : Nat, SrH (Q_X9_searchOn n) (Q_X12_searches n') e := by
  intro n
  induction n with
  | zero => exact fun n' d p y a m z s t _ _ _ _ => rel_nl
  | succ n ih =>
    intro n'
    cases n' with
    | zero => exact fun d p y a m z s t _ _ _ _ => rel_nr
    | succ n' => exact SrH_step (ih n')
theorem R_first {e : Nat → Int64} {m : Nat} {s t : mG} (hm : m < 100) (h1 : s.2 83 7 = cl (-1)) (h2 : t.2 88 31 = cl (-1)) (h5 : ∀ k, k < 4 → (s.1 85 k).toInt64 = e k ∧ t.2 100 k = e k) : rel (F_X9_searchOn R_X9_searchOn (cn m) (ci 0) (ci 0) (ci 0) (cz 0) s) (F_X12_searches R_X12_searches (ci 0) (ci 0) (cn m) (cz 0) t) (SrP (fun _ => 0) 0 e) := by
  have hv : SrV (fun _ => 0) 0 0 := ⟨by decide, by decide, fun j hj => absurd hj (by omega), fun i hi => ⟨fun q => absurd q (by
    have : ∀ i, i < 4 → ¬ vbB 0 i = true := by decide
    exact this i hi), fun ⟨j, hj, _⟩ => absurd hj (by omega)⟩⟩
  unfold F_X9_searchOn F_X12_searches
  have c : ¬ lg_cmp (cz 0) (cl (-1)) ≤ 0 := by decide
  rw [h1, h2, if_neg c, if_neg c]
  show rel (F_X9_searchOn_L25 R_X9_searchOn (cn m) (cn 0) (cn 0) (cn 0) (cz 0) (ci 0) (mu s.1 83 6 (cn 0), muL s.2 83 7 (cz 0))) (F_X12_searches_L24 R_X12_searches (cn 0) (cn 0) (cn m) (cz 0) (ci 0) (mu t.1 88 32 (cn 0), muL t.2 88 31 (cz 0))) _
  exact R_copyS (d := 0) (p := fun _ => 0) (y := 0) (a := 0) (SrH_all 5 5) hv (by decide) hm (muL_sameQ.trans muL_sameQ.symm) mu_sameQ mu_sameQ (fun j hj => absurd hj (by omega)) (fun k hk => ⟨by
    show (mu s.1 83 6 (cn 0) 85 k).toInt64 = e k
    rw [mu_cell (Or.inl (by decide))]
    exact (h5 k hk).1, by
    show muL t.2 88 31 (cz 0) 100 k = e k
    rw [muL_cell (Or.inl (by decide))]
    exact (h5 k hk).2⟩)
end
end
/-! 5zu3.fire -/
section
noncomputable section
/-! THE FLOORS, and fire -/
def flN (w : Nat → Int32) (m f : Nat) : Nat → Int64
  | 0 => cz 0
  | k + 1 => if w (119 + k) = cn f then flN w m f k + sureN w m k else flN w m f k
theorem flN_0 {w : Nat → Int32} {m f : Nat} : flN w m f 0 = cz 0 := rfl
theorem flN_s {w : Nat → Int32} {m f k : Nat} : flN w m f (k + 1) = if w (119 + k) = cn f then flN w m f k + sureN w m k else flN w m f k := rfl
theorem Sb_wd {M N : Int} {x : Int32} {u : Int64} (h : Sb M x u) (k : M ≤ N) : Sb N x u := ⟨h.1, h.2.1, Int.le_trans h.2.2 k⟩
theorem fl_of {b : mG} {k : Nat} (hI : IM b) (hk : k < 12) : ∃ f, f < 4 ∧ b.1 89 (119 + k) = cn f := by
  have q := hI.1.2.2.2.2.2.2.1 k hk
  exact ⟨(b.1 89 (119 + k)).toInt.toNat, by omega, cnof q.1⟩
theorem V_floorsL {a b : mG} {n nc m M : Nat} (hI : IM b) (K : HK (b.1 89) n nc a) (h3 : a.1 10 3 = cn m) (hm : m ≤ 6) (h85 : ∀ f, f < 4 → a.1 85 f = ci 0) : pk (F_X9_searchFloors_L26 (cn M) (ci 0) a) (fun u => ∃ s : mG, F_X9_searchOn R_X9_searchOn (cn M) (ci 0) (ci 0) (ci 0) (cz 0) s = some u ∧ s.2 83 7 = cl (-1) ∧ ∀ f, f < 4 → (s.1 85 f).toInt64 = flN (b.1 89) m f n) := by
  have hn := K.2.2.1
  unfold F_X9_searchFloors_L26
  refine pk_whl (fun v => ∃ (k : Nat) (s : mG), k ≤ n ∧ v = (cn M, cn k, s) ∧ (∀ f, f < 4 → Sb (k * 1000000) (s.1 85 f) (flN (b.1 89) m f k)) ∧ ∀ j, j ≠ 69 → j ≠ 70 → j ≠ 74 → j ≠ 85 → s.1 j = a.1 j) ⟨0, a, Nat.zero_le _, rfl, fun f hf => by rw [h85 f hf, flN_0]; exact Sb_0, fun _ _ _ _ _ => rfl⟩ (fun v hv => ?_)
  obtain ⟨k, s, hk, ev, q2, r⟩ := hv
  rw [ev]
  have Ks : HK (b.1 89) n nc s := HK_low K (fun j h1 h2 => r j (by omega) (by omega) (by omega) (by omega))
  unfold F_X9_searchFloors_B26
  dsimp only
  rw [Ks.2.1]
  by_cases hkn : n ≤ k
  · have ek : k = n := by omega
    rw [if_pos ((cn_le (by omega) (by omega)).mpr hkn)]
    refine pk_b1r (fun u hu => ?_)
    refine ⟨_, hu, muL_sameQ, fun f hf => ?_⟩
    show (mu s.1 83 6 (ci 0) 85 f).toInt64 = _
    rw [mu_cell (Or.inl (by decide)), ← ek]
    exact (q2 f hf).1.symm
  rw [if_neg (fun q => hkn ((cn_le (by omega) (by omega)).mp q)), V_atG (c := 0) (k := ci 0) Ks.1.1 Ks.2.1 hn (by omega) (by decide) rfl, b1_some, show ixG k 0 = 119 + k from rfl]
  obtain ⟨f, hf, ef⟩ := fl_of hI (by omega : k < 12)
  rw [ef, V_cellJ sh85 hf (by decide), b1_some]
  refine pk_b2 (V_sureC hI Ks (by omega : k < n) (by rw [r 10 (by decide) (by decide) (by decide) (by decide)]; exact h3) hm) (fun v13 s12 qt => ?_)
  obtain ⟨t1o, _, t2o⟩ := qt
  have t1 : Su v13 (sureN (b.1 89) m k) := t1o
  have t2 : ∀ j, j ≠ 69 → j ≠ 70 → j ≠ 74 → s12.1 j = s.1 j := t2o
  rw [V_putJ sh85 hf (by decide), b1_some]
  refine pk_some (show ∃ (k' : Nat) (s' : mG), _ from ⟨k + 1, (mu s12.1 85 f (s.1 85 f + v13), s12.2), by omega, by rw [cnu (by omega)], fun i hi => ?_, fun j h1 h2 h4 h5 => ?_⟩)
  · show Sb ((k + 1 : Nat) * 1000000) (mu s12.1 85 f (s.1 85 f + v13) 85 i) _
    rw [flN_s, ef]
    by_cases e : i = f
    · rw [e, mu_same, if_pos rfl]
      have q4 : Sb 1000000 v13 (sureN (b.1 89) m k) := t1
      have q5 := Sb_add (q2 f hf) q4 (by omega)
      rw [show (k : Int) * 1000000 + 1000000 = ((k + 1 : Nat) : Int) * 1000000 by omega] at q5
      exact q5
    · rw [mu_cell (Or.inr e), if_neg (fun q => e ((cn_inj (by omega) (by omega)).mp q).symm), t2 85 (by decide) (by decide) (by decide)]
      exact Sb_wd (q2 i hi) (by omega)
  · show mu s12.1 85 f (s.1 85 f + v13) j = a.1 j
    exact (mu_row h5).trans ((t2 j h1 h2 h4).trans (r j h1 h2 h4 h5))
theorem V_floorsC {a b : mG} {n nc m M : Nat} (hI : IM b) (K : HK (b.1 89) n nc a) (h3 : a.1 10 3 = cn m) (hm : m ≤ 6) : pk (F_X9_searchFloors (cn M) a) (fun u => ∃ s : mG, F_X9_searchOn R_X9_searchOn (cn M) (ci 0) (ci 0) (ci 0) (cz 0) s = some u ∧ s.2 83 7 = cl (-1) ∧ ∀ f, f < 4 → (s.1 85 f).toInt64 = flN (b.1 89) m f n) := by
  unfold F_X9_searchFloors F_X9_searchFloors_L2
  refine pk_whl (fun v => ∃ (k : Nat) (s : mG), k ≤ 4 ∧ v = (cn M, cn k, s) ∧ (∀ f, f < k → s.1 85 f = ci 0) ∧ ∀ j, j ≠ 85 → s.1 j = a.1 j) ⟨0, a, Nat.zero_le _, rfl, fun f hf => absurd hf (by omega), fun _ _ => rfl⟩ (fun v hv => ?_)
  obtain ⟨k, s, hk, ev, q2, r⟩ := hv
  rw [ev]
  unfold F_X9_searchFloors_B2
  dsimp only
  by_cases h4 : 4 ≤ k
  · have ek : k = 4 := by omega
    rw [ek] at q2
    rw [if_pos ((cn_le (by omega) (by omega)).mpr h4)]
    exact pk_b1r (V_floorsL hI (HK_low K (fun j h1 h2 => r j (by omega))) (by rw [r 10 (by decide)]; exact h3) hm q2)
  rw [if_neg (fun q => h4 ((cn_le (by omega) (by omega)).mp q)), cn_nat (n := k) (by omega)]
  refine pk_nn (pk_some (show ∃ (k' : Nat) (s' : mG), _ from ⟨k + 1, (mu s.1 85 k (ci 0), s.2), by omega, by rw [cnu (by omega)], fun f hf => ?_, fun j hj => (mu_row hj).trans (r j hj)⟩))
  show mu s.1 85 k (ci 0) 85 f = ci 0
  by_cases e : f = k
  · rw [e, mu_same]
  · rw [mu_cell (Or.inr e)]
    exact q2 f (by omega)
theorem V_laysF {b : mG} {n nc m : Nat} (hI : IM b) (L : LTy nc (b.1 89)) (g2 : b.1 89 112 = cn n) (hn : n ≤ 12) (hw : b.1 89 115 = cn m) (hm : m ≤ 6) : pk (F_X12_laysFloors b) (fun t => ∀ f, f < 4 → t.2 100 f = flN (b.1 89) m f n) := by
  unfold F_X12_laysFloors F_X12_laysFloors_L2
  refine pk_whl (fun v => ∃ (k : Nat) (s : mG), k ≤ 4 ∧ v = (cn k, s) ∧ (∀ f, f < k → s.2 100 f = cz 0) ∧ s.1 = b.1) ⟨0, b, Nat.zero_le _, rfl, fun f hf => absurd hf (by omega), rfl⟩ (fun v hv => ?_)
  obtain ⟨k, s, hk, ev, q2, r⟩ := hv
  rw [ev]
  unfold F_X12_laysFloors_B2
  dsimp only
  by_cases h4 : 4 ≤ k
  · have ek : k = 4 := by omega
    rw [ek] at q2
    rw [if_pos (show ci 4 ≤ cn k from (cn_le (a := 4) (by omega) (by omega)).mpr h4)]
    refine pk_b1r ?_
    unfold F_X12_laysFloors_L22
    refine pk_whl (fun v => ∃ (i : Nat) (t : mG), i ≤ n ∧ v = (cn i, t) ∧ (∀ f, f < 4 → t.2 100 f = flN (b.1 89) m f i) ∧ ∀ j, j ≠ 96 → j ≠ 97 → t.1 j = b.1 j) ⟨0, s, Nat.zero_le _, rfl, fun f hf => by rw [q2 f hf, flN_0], fun j _ _ => by rw [r]⟩ (fun v hv => ?_)
    obtain ⟨i, t, hi, ev, p2, rt⟩ := hv
    rw [ev]
    have e89 : t.1 89 = b.1 89 := rt 89 (by decide) (by decide)
    unfold F_X12_laysFloors_B22
    dsimp only
    rw [e89, g2]
    by_cases hin : n ≤ i
    · have ei : i = n := by omega
      rw [if_pos ((cn_le (by omega) (by omega)).mpr hin)]
      rw [ei] at p2
      exact pk_some (show ∀ f, f < 4 → t.2 100 f = _ from p2)
    rw [if_neg (fun q => hin ((cn_le (by omega) (by omega)).mp q)), show c8 119 + cn i = cn (119 + i) from cn_add (a := 119) (by omega), cn_nat (n := 119 + i) (by omega)]
    obtain ⟨f, hf, ef⟩ := fl_of hI (by omega : i < 12)
    rw [ef, cn_nat (n := f) (by omega)]
    refine pk_nn (pk_nn ?_)
    refine pk_b2 (V_sureS L hn (by omega : i < n) hw hm e89) (fun v8 s7 qt => ?_)
    obtain ⟨t1o, t2o, t3o⟩ := qt
    have t1 : v8 = sureN (b.1 89) m i := t1o
    have t2 : ∀ j, j ≠ 96 → j ≠ 97 → s7.1 j = t.1 j := t2o
    have t3 : s7.2 = t.2 := t3o
    rw [t1, t3]
    refine pk_nn (pk_some (show ∃ (i' : Nat) (t' : mG), _ from ⟨i + 1, (s7.1, muL t.2 100 f (t.2 100 f + sureN (b.1 89) m i)), by omega, by rw [cnu (by omega)], fun x hx => ?_, fun j h1 h2 => (t2 j h1 h2).trans (rt j h1 h2)⟩))
    show muL t.2 100 f (t.2 100 f + sureN (b.1 89) m i) 100 x = _
    rw [flN_s, ef]
    by_cases e : x = f
    · rw [e, muL_same, if_pos rfl, p2 f hf]
    · rw [muL_cell (Or.inr e), if_neg (fun q => e ((cn_inj (by omega) (by omega)).mp q).symm)]
      exact p2 x hx
  rw [if_neg (show ¬ ci 4 ≤ cn k from fun q => h4 ((cn_le (a := 4) (by omega) (by omega)).mp q)), cn_nat (n := k) (by omega)]
  refine pk_nn (pk_some (show ∃ (k' : Nat) (s' : mG), _ from ⟨k + 1, (s.1, muL s.2 100 k (cz 0)), by omega, by rw [cnu (by omega)], fun f hf => ?_, r⟩))
  show muL s.2 100 k (cz 0) 100 f = cz 0
  by_cases e : f = k
  · rw [e, muL_same]
  · rw [muL_cell (Or.inr e)]
    exact q2 f (by omega)
theorem fl_tail {l : Nat} {y : Int32} (hl : l ≤ 4) (h0 : ¬ y = 0) (h1 : ¬ y = ci 1) (hA : wi y (ci 0) (ci 1) = 0) (hB : wi y (c8 10) (c8 13) = 0) : y < c8 10 ∨ cn l ≤ y - c8 10 := by
  by_cases h : y < c8 10
  · exact Or.inl h
  · refine Or.inr ?_
    rw [Int32.lt_iff_toInt_lt, show (c8 10).toInt = 10 by decide] at h
    have r := y.toInt_lt
    have n13 : ¬ (10 ≤ y.toInt ∧ y.toInt ≤ 13) := fun q => by
      rw [wi_in (by rw [show (c8 10).toInt = 10 by decide]; exact q.1) (by rw [show (c8 13).toInt = 13 by decide]; exact q.2)] at hB
      exact absurd hB (by decide)
    rw [Int32.le_iff_toInt_le, t_cn (by omega), r_sub (rfl : y.toInt = _) (by decide : (c8 10).toInt = 10) (by omega) (by omega)]
    omega
theorem R_fire {a b : mG} {x y : Int32} (hI : IM b) (h : SIM a b) : rel (F_X11_fire x y a) (F_X12_fire x y b) (fun τ υ => τ.1 = υ.1) := by
  obtain ⟨n, nc, m, K, g2, V, hm, h3, hw⟩ := SIM_S h
  have hn := K.2.2.1
  unfold F_X11_fire F_X12_fire F_X12_fire_30
  rw [V_within, F_isIn, b1_some, b1_some]
  refine rel_ifs Iff.rfl (fun _ => rel_some rfl) (fun hx => ?_)
  obtain ⟨M, hM, ex⟩ : ∃ M : Nat, M < 100 ∧ x = cn M := by
    obtain ⟨z1, z2⟩ := wi_f hx
    rw [show (ci 1).toInt = 1 by decide] at z1
    rw [show (c8 99).toInt = 99 by decide] at z2
    exact ⟨x.toInt.toNat, by omega, cnof (by omega)⟩
  obtain ⟨t1, e1, r1⟩ := T_X12_laysFloors hI
  have f1 := V_laysF hI K.2.2.2.2 g2 hn hw hm t1 e1
  obtain ⟨t3, e3, r3⟩ := T_fire_searches (x1 := cn M) (RM_muL (i := 88) (k := 31) (v := cl (-1)) r1).1
  rw [ex]
  refine rel_l1 (V_floorsC hI K h3 hm) (fun u qu => ?_)
  obtain ⟨s, es, s1, s2⟩ := qu
  have P := R_first (e := fun f => flN (b.1 89) m f n) (t := (t1.1, muL t1.2 88 31 (cl (-1)))) hM s1 muL_sameQ (fun f hf => ⟨s2 f hf, by
    show muL t1.2 88 31 (cl (-1)) 100 f = _
    rw [muL_cell (Or.inl (by decide))]
    exact f1 f hf⟩) u es t3 e3
  obtain ⟨p1, ⟨l, l4, p2, p3, p4⟩, _, _⟩ := P
  unfold F_X11_fire_87
  rw [F_isIn, b1_some, F_isIn, b1_some]
  have R32 : F_X12_fire_32 (cn M) y b = (if y = 0 then some (((t3.2 88 31) / (cl 1000000)).toInt32, t3) else if y = ci 1 then some (t3.1 88 32, t3) else if t3.1 88 32 ≤ y - c8 10 then some (ci (-1), t3) else if y - c8 10 < 0 ∨ 4 ≤ (y - c8 10).toNatClampNeg then none else some (t3.1 102 (y - c8 10).toNatClampNeg, t3)) := by
    unfold F_X12_fire_32
    rw [e1, b1_some]
    dsimp only
    rw [e3, b1_some]
  have main : rel (if y = 0 then some (((u.2 83 7) / (cl 1000000)).toInt32, u) else if y = ci 1 then some (u.1 83 6, u) else if y < c8 10 then some (ci (-1), u) else if u.1 83 6 ≤ y - c8 10 then some (ci (-1), u) else b1 (F_X11_cell 87 u (y - c8 10)) fun v12 => some (v12, u)) (F_X12_fire_32 (cn M) y b) (fun τ υ => ¬ y < c8 10 ∨ y = 0 ∨ y = ci 1 → τ.1 = υ.1) := by
    rw [R32]
    refine rel_ifs Iff.rfl (fun _ => rel_some (fun _ => by show ((u.2 83 7) / (cl 1000000)).toInt32 = ((t3.2 88 31) / (cl 1000000)).toInt32; rw [p1])) (fun h0 => ?_)
    refine rel_ifs Iff.rfl (fun _ => rel_some (fun _ => p2.trans p3.symm)) (fun h1 => ?_)
    refine rel_li (fun hl u1 _ v1 _ q => absurd hl (q.elim id (fun q => absurd q (fun q => q.elim h0 h1)))) (fun hl => ?_)
    rw [p2, p3]
    refine rel_ifs Iff.rfl (fun _ => rel_some (fun _ => rfl)) (fun hc => ?_)
    have c0 : ¬ (y - c8 10).toInt ≥ l := fun q => hc (by rw [Int32.le_iff_toInt_le, t_cn (by omega)]; exact q)
    have c1 : 0 ≤ (y - c8 10).toInt := by
      rw [Int32.lt_iff_toInt_lt, show (c8 10).toInt = 10 by decide] at hl
      have r := y.toInt_lt
      rw [r_sub (rfl : y.toInt = _) (by decide : (c8 10).toInt = 10) (by omega) (by omega)]
      omega
    obtain ⟨c, hc4, ec⟩ : ∃ c : Nat, c < l ∧ y - c8 10 = cn c := ⟨(y - c8 10).toInt.toNat, by omega, cnof c1⟩
    rw [ec, V_cellJ sh87 (by omega) (by decide), b1_some, cn_nat (n := c) (by omega)]
    exact rel_rg (rel_some (fun _ => p4 c hc4))
  refine rel_ri (fun hA => ?_) (fun hA => ?_)
  · have y0 : ¬ y = 0 := fun e => by rw [e] at hA; exact absurd hA (by decide)
    have y1 : ¬ y = ci 1 := fun e => by rw [e] at hA; exact absurd hA (by decide)
    refine rel_ri (fun hB => ?_) (fun hB => ?_)
    · rw [if_neg y0, if_neg y1]
      rcases fl_tail l4 y0 y1 hA hB with q | q
      · rw [if_pos q]
        exact rel_some rfl
      · by_cases q2 : y < c8 10
        · rw [if_pos q2]
          exact rel_some rfl
        · rw [if_neg q2, p2, if_pos q]
          exact rel_some rfl
    · refine rel_mono main (fun u1 v1 q => q (Or.inl (fun q2 => ?_)))
      obtain ⟨z1, z2⟩ := wi_f hB
      rw [show (c8 10).toInt = 10 by decide] at z1
      rw [Int32.lt_iff_toInt_lt, show (c8 10).toInt = 10 by decide] at q2
      omega
  · refine rel_mono main (fun u1 v1 q => q (Or.inr ?_))
    obtain ⟨c, hc, ey⟩ := wi_cn (l := 1) (by omega) hA
    rcases (show c = 0 ∨ c = 1 by omega) with e | e <;> rw [e] at ey
    · exact Or.inl (ey.trans (by decide))
    · exact Or.inr ey
end
end
