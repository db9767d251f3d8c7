noncomputable section
/-! HOW MANY -/
def Sb (M : Int) (x : Int32) (y : Int64) : Prop := y = x.toInt64 ∧ 0 ≤ x.toInt ∧ x.toInt ≤ M
theorem Sb_add {M N : Int} {x y : Int32} {u v : Int64} (h : Sb M x u) (k : Sb N y v) (r : M + N < 2147483648) : Sb (M + N) (x + y) (u + v) := by
  obtain ⟨h0, h1, h2⟩ := h
  obtain ⟨k0, k1, k2⟩ := k
  have c0 : 0 ≤ x.toInt + y.toInt ∧ x.toInt + y.toInt ≤ M + N := ⟨by omega, by omega⟩
  have c1 : -2147483648 ≤ x.toInt + y.toInt ∧ x.toInt + y.toInt < 2147483648 := ⟨by omega, by omega⟩
  have c2 : -9223372036854775808 ≤ x.toInt + y.toInt ∧ x.toInt + y.toInt < 9223372036854775808 := ⟨by omega, by omega⟩
  have e : (x + y).toInt = x.toInt + y.toInt := r_add rfl rfl c1.1 c1.2
  have f : (u + v).toInt = x.toInt + y.toInt := l_add (by rw [h0, Int32.toInt_toInt64]) (by rw [k0, Int32.toInt_toInt64]) c2.1 c2.2
  refine (show _ ∧ _ ∧ _ from ⟨Int64.toInt_inj.mp (f.trans ((Int32.toInt_toInt64 _).trans e).symm), ?_, ?_⟩)
  · rw [e]; exact c0.1
  · rw [e]; exact c0.2
theorem Sb_0 : Sb ((0 : Nat) * 1000000) (ci 0) (cz 0) := (show _ ∧ _ ∧ _ from ⟨by decide, by decide, by decide⟩)
theorem i_div {X : Int} (h : 0 ≤ X) (k : X < 2147483648) : -2147483648 ≤ X / 1000000 ∧ X / 1000000 < 2147483648 := ⟨by omega, by omega⟩
theorem q32 {z : Int64} {X : Int} (e : z.toInt = X) (h : -2147483648 ≤ X ∧ X < 2147483648) : z.toInt32.toInt = X := by
  rw [Int64.toInt_toInt32, e]
  exact Int.bmod_eq_of_le (by omega) (by omega)
theorem Sb_div {M : Int} {x : Int32} {u : Int64} (h : Sb M x u) (r : M < 2147483648) : x / ci 1000000 = (u / cl 1000000).toInt32 := by
  obtain ⟨h0, h1, h2⟩ := h
  have b := i_div h1 (by omega)
  have e : (x / ci 1000000).toInt = x.toInt / 1000000 := t_div rfl (by decide : (ci 1000000).toInt = 1000000) h1 (by decide)
  have f : (u / cl 1000000).toInt = x.toInt / 1000000 := l_div (by rw [h0, Int32.toInt_toInt64]) (by decide : (cl 1000000).toInt = 1000000) h1 (by decide) (Int.lt_of_le_of_lt h2 (Int.lt_trans r (by decide)))
  exact Int32.toInt_inj.mp (e.trans (q32 f b).symm)
def sN (w : Nat → Int32) (m : Nat) : Nat → Int64
  | 0 => cz 0
  | k + 1 => sN w m k + sureN w m k
theorem V_sumC {a b : mG} {n nc m : Nat} (hI : IM b) (K : HK (b.1 89) n nc a) (h3 : a.1 10 3 = cn m) (hm : m ≤ 6) : pk (F_X0_sumOfSure a) (fun τ => τ.1 = (sN (b.1 89) m n / cl 1000000).toInt32) := by
  have hn := K.2.2.1
  unfold F_X0_sumOfSure
  refine pk_b1 (V_weigh hI K h3 hm) (fun u qu => ?_)
  obtain ⟨u1, u2⟩ := qu
  have Ku : HK (b.1 89) n nc u := HK_low K (fun j h1 h2 => u2 j (by omega) (by omega) (by omega) (by omega))
  unfold F_X0_sumOfSure_L8
  refine pk_whl (fun v => ∃ k : Nat, k ≤ n ∧ v.2.1 = cn k ∧ Sb (k * 1000000) v.1 (sN (b.1 89) m k) ∧ v.2.2 = u) ⟨0, Nat.zero_le _, rfl, Sb_0, rfl⟩ (fun v hv => ?_)
  obtain ⟨x1, x2, s⟩ := v
  obtain ⟨k, hk, q1o, q2o, q3o⟩ := hv
  have q1 : x2 = cn k := q1o
  have q2 : Sb (k * 1000000) x1 (sN (b.1 89) m k) := q2o
  have q3 : s = u := q3o
  unfold F_X0_sumOfSure_B8
  dsimp only
  rw [q1, q3, Ku.2.1]
  by_cases hkn : n ≤ k
  · have ek : k = n := by omega
    rw [if_pos ((cn_le (by omega) (by omega)).mpr hkn)]
    rw [ek] at q2
    exact pk_some (show x1 / ci 1000000 = _ from Sb_div q2 (by omega))
  rw [if_neg (fun q => hkn ((cn_le (by omega) (by omega)).mp q)), V_cellJ sh76 (by omega) (by decide), b1_some]
  have q4 : Sb 1000000 (u.1 76 k) (sureN (b.1 89) m k) := u1 k (by omega)
  have q5 := Sb_add q2 q4 (by omega)
  rw [show (k : Int) * 1000000 + 1000000 = ((k + 1 : Nat) : Int) * 1000000 by omega] at q5
  exact pk_some (show ∃ k' : Nat, _ from ⟨k + 1, by omega, cnu (by omega), q5, rfl⟩)
/-- the likeliest -/
def lkN (f : Nat → Int64) : Nat → Nat
  | 0 => 0
  | i + 1 => if (f (i + 1)).toInt ≤ (f (lkN f i)).toInt then lkN f i else i + 1
theorem lkN_s {f : Nat → Int64} {i : Nat} : lkN f (i + 1) = if (f (i + 1)).toInt ≤ (f (lkN f i)).toInt then lkN f i else i + 1 := rfl
theorem lkN_b {f : Nat → Int64} : ∀ i, lkN f i ≤ i := by
  intro i
  induction i with
  | zero => exact Nat.le_refl _
  | succ i ih =>
    rw [lkN_s]
    by_cases h : (f (i + 1)).toInt ≤ (f (lkN f i)).toInt
    · rw [if_pos h]; omega
    · rw [if_neg h]; omega
theorem V_likeC {a b : mG} {n nc m : Nat} {x : Int32} (hI : IM b) (K : HK (b.1 89) n nc a) (h3 : a.1 10 3 = cn m) (hw : b.1 89 115 = cn m) (hm : m ≤ 6) : pk (F_X0_likeliest x a) (fun τ => (x = 0 → τ.1 = cn (lkN (dN (b.1 89) m 12 n) n)) ∧ (¬ x = 0 → Su τ.1 (dN (b.1 89) m 12 n (lkN (dN (b.1 89) m 12 n) n)))) := by
  have hn := K.2.2.1
  unfold F_X0_likeliest
  refine pk_b1 (V_countC (sk := 12) hI K h3 hw hm (fun k hk => ⟨fun e => absurd e (cn_ne1 (by omega)), fun e => by omega⟩)) (fun u qu => ?_)
  obtain ⟨u1, u0, u2⟩ := qu
  have Ku : HK (b.1 89) n nc u := HK_low K (fun j h1 h2 => u2 j (by omega) (by omega) (by omega) (by omega) (by omega))
  unfold F_X0_likeliest_L9
  refine pk_whl (fun v => v.1 = x ∧ ∃ k, k ≤ n ∧ v.2.1 = cn (lkN (dN (b.1 89) m 12 n) k) ∧ v.2.2.1 = cn (k + 1) ∧ v.2.2.2 = u) ⟨rfl, 0, Nat.zero_le _, rfl, rfl, rfl⟩ (fun v hv => ?_)
  obtain ⟨x1, x2, x3, s⟩ := v
  obtain ⟨q0o, k, hk, q1o, q2o, q3o⟩ := hv
  have q0 : x1 = x := q0o
  have q1 : x2 = cn (lkN (dN (b.1 89) m 12 n) k) := q1o
  have q2 : x3 = cn (k + 1) := q2o
  have q3 : s = u := q3o
  have bb := lkN_b (f := dN (b.1 89) m 12 n) k
  unfold F_X0_likeliest_B9 F_X0_likeliest_47
  dsimp only
  rw [q0, q1, q2, q3, Ku.2.1]
  by_cases hkn : n < k + 1
  · have ek : k = n := by omega
    rw [if_pos ((cn_lt (by omega) (by omega)).mpr hkn)]
    by_cases hx : x = 0
    · rw [if_pos hx]
      exact pk_some (show (_ → _) ∧ (_ → _) from ⟨fun _ => by rw [ek], fun q => absurd hx q⟩)
    · rw [if_neg hx, V_cellJ sh75 (by omega) (by decide), b1_some]
      have q := u1 (lkN (dN (b.1 89) m 12 n) k) (by omega)
      rw [ek] at q ⊢
      exact pk_some (show (_ → _) ∧ (_ → _) from ⟨fun q => absurd q hx, fun _ => q⟩)
  rw [if_neg (fun q => hkn ((cn_lt (by omega) (by omega)).mp q)), V_cellJ (j := 75) (k := k + 1) sh75 (by omega) (by decide), b1_some, V_cellJ (j := 75) (k := lkN (dN (b.1 89) m 12 n) k) sh75 (by omega) (by decide), b1_some]
  have s1 := u1 (k + 1) (by omega)
  have s2 := u1 (lkN (dN (b.1 89) m 12 n) k) (by omega)
  by_cases hl : (dN (b.1 89) m 12 n (k + 1)).toInt ≤ (dN (b.1 89) m 12 n (lkN (dN (b.1 89) m 12 n) k)).toInt
  · rw [if_pos (Int32.le_iff_toInt_le.mpr (by rw [← Su_t s1, ← Su_t s2]; exact hl))]
    exact pk_some (show _ ∧ ∃ k', _ from ⟨rfl, k + 1, by omega, by rw [lkN_s, if_pos hl], cnu (by omega), rfl⟩)
  · rw [if_neg (fun q => hl (by rw [Su_t s1, Su_t s2]; exact Int32.le_iff_toInt_le.mp q))]
    exact pk_some (show _ ∧ ∃ k', _ from ⟨rfl, k + 1, by omega, by rw [lkN_s, if_neg hl], cnu (by omega), rfl⟩)
theorem V_likeR {b t : mG} {n m : Nat} {x : Int32} (g2 : t.1 89 112 = cn n) (hn : n ≤ 12) (ht : ∀ i, i ≤ n → t.2 98 i = dN (b.1 89) m 12 n i) : pk (F_X12_many_L64 x (ci 0) (ci 1) t) (fun τ => (x = ci 1 → τ.1 = cn (lkN (dN (b.1 89) m 12 n) n)) ∧ (¬ x = ci 1 → τ.1 = (dN (b.1 89) m 12 n (lkN (dN (b.1 89) m 12 n) n)).toInt32)) := by
  unfold F_X12_many_L64
  refine pk_whl (fun v => v.1 = x ∧ ∃ k, k ≤ n ∧ v.2.1 = cn (lkN (dN (b.1 89) m 12 n) k) ∧ v.2.2.1 = cn (k + 1) ∧ v.2.2.2 = t) ⟨rfl, 0, Nat.zero_le _, rfl, rfl, rfl⟩ (fun v hv => ?_)
  obtain ⟨x1, x4, x5, s⟩ := v
  obtain ⟨q0o, k, hk, q1o, q2o, q3o⟩ := hv
  have q0 : x1 = x := q0o
  have q1 : x4 = cn (lkN (dN (b.1 89) m 12 n) k) := q1o
  have q2 : x5 = cn (k + 1) := q2o
  have q3 : s = t := q3o
  have bb := lkN_b (f := dN (b.1 89) m 12 n) k
  unfold F_X12_many_B64 F_X12_many_98
  dsimp only
  rw [q0, q1, q2, q3, g2, cn_nat (n := lkN (dN (b.1 89) m 12 n) k) (by omega), ht _ (show lkN (dN (b.1 89) m 12 n) k ≤ n by omega)]
  by_cases hkn : n < k + 1
  · have ek : k = n := by omega
    rw [if_pos ((cn_lt (by omega) (by omega)).mpr hkn)]
    by_cases hx : x = ci 1
    · rw [if_pos hx]
      exact pk_some (show (_ → _) ∧ (_ → _) from ⟨fun _ => by rw [ek], fun q => absurd hx q⟩)
    · rw [if_neg hx]
      refine pk_nn ?_
      rw [ek]
      exact pk_some (show (_ → _) ∧ (_ → _) from ⟨fun q => absurd q hx, fun _ => rfl⟩)
  rw [if_neg (fun q => hkn ((cn_lt (by omega) (by omega)).mp q)), cn_nat (n := k + 1) (by omega), ht (k + 1) (by omega)]
  refine pk_nn (pk_nn ?_)
  by_cases hl : (dN (b.1 89) m 12 n (k + 1)).toInt ≤ (dN (b.1 89) m 12 n (lkN (dN (b.1 89) m 12 n) k)).toInt
  · rw [if_pos ((lg_cmp_le _ _).mpr (Int64.le_iff_toInt_le.mpr hl))]
    exact pk_some (show _ ∧ ∃ k', _ from ⟨rfl, k + 1, by omega, by rw [lkN_s, if_pos hl], cnu (by omega), rfl⟩)
  · rw [if_neg (fun q => hl (Int64.le_iff_toInt_le.mp ((lg_cmp_le _ _).mp q)))]
    exact pk_some (show _ ∧ ∃ k', _ from ⟨rfl, k + 1, by omega, by rw [lkN_s, if_neg hl], cnu (by omega), rfl⟩)
/-- the reference, all of it -/
def MnQ (w : Nat → Int32) (m n : Nat) (x v : Int32) : Prop := (x = 0 → v = (sN w m n / cl 1000000).toInt32) ∧ (x = ci 1 → v = cn (lkN (dN w m 12 n) n)) ∧ (¬ x = 0 → ¬ x = ci 1 → v = (dN w m 12 n (lkN (dN w m 12 n) n)).toInt32)
theorem V_manyR {b : mG} {n nc m : Nat} {x : Int32} (L : LTy nc (b.1 89)) (g2 : b.1 89 112 = cn n) (hn : n ≤ 12) (hw : b.1 89 115 = cn m) (hm : m ≤ 6) : pk (F_X12_many_L16 x (cz 0) (ci 0) b) (fun τ => MnQ (b.1 89) m n x τ.1) := by
  unfold F_X12_many_L16
  refine pk_whl (fun v => v.1 = x ∧ ∃ k, k ≤ n ∧ v.2.1 = sN (b.1 89) m k ∧ v.2.2.1 = cn k ∧ ∀ j, j ≠ 96 → j ≠ 97 → v.2.2.2.1 j = b.1 j) ⟨rfl, 0, Nat.zero_le _, rfl, rfl, fun _ _ _ => rfl⟩ (fun v hv => ?_)
  obtain ⟨x1, x2, x4, s⟩ := v
  obtain ⟨q0o, k, hk, q1o, q2o, ro⟩ := hv
  have q0 : x1 = x := q0o
  have q1 : x2 = sN (b.1 89) m k := q1o
  have q2 : x4 = cn k := q2o
  have r : ∀ j, j ≠ 96 → j ≠ 97 → s.1 j = b.1 j := ro
  have e89 : s.1 89 = b.1 89 := r 89 (by decide) (by decide)
  unfold F_X12_many_B16
  dsimp only
  rw [q0, q1, q2, e89, g2]
  by_cases hkn : n ≤ k
  · have ek : k = n := by omega
    rw [if_pos ((cn_le (by omega) (by omega)).mpr hkn)]
    by_cases hx : x = 0
    · rw [if_pos hx]
      exact pk_some (show (_ → _) ∧ (_ → _) ∧ (_ → _ → _) from ⟨fun _ => by rw [ek], fun q => absurd (hx.symm.trans q) (by decide), fun q => absurd hx q⟩)
    · rw [if_neg hx]
      refine pk_b1 (V_laysC L g2 hn hw hm r) (fun t qt => ?_)
      obtain ⟨t1, t2⟩ := qt
      refine pk_b1r (fun o ho => ?_)
      have q := V_likeR (b := b) (t := t) (n := n) (m := m) (x := x) (by rw [t2 89 (by decide) (by decide)]; exact g2) hn t1 o ho
      exact (show (_ → _) ∧ (_ → _) ∧ (_ → _ → _) from ⟨fun z => absurd z hx, q.1, fun _ z => q.2 z⟩)
  rw [if_neg (fun q => hkn ((cn_le (by omega) (by omega)).mp q))]
  refine pk_b2 (V_sureS L hn (by omega : k < n) hw hm e89) (fun v9 s8 qt => ?_)
  obtain ⟨t1o, t2o, _⟩ := qt
  have t1 : v9 = sureN (b.1 89) m k := t1o
  have t2 : ∀ j, j ≠ 96 → j ≠ 97 → s8.1 j = s.1 j := t2o
  rw [t1]
  exact pk_some (show _ ∧ ∃ k', _ from ⟨rfl, k + 1, by omega, rfl, cnu (by omega), fun j h1 h2 => (t2 j h1 h2).trans (r j h1 h2)⟩)
theorem R_many {a b : mG} {x : Int32} (hI : IM b) (h : SIM a b) : rel (F_X11_many x a) (F_X12_many x b) (fun τ υ => τ.1 = υ.1) := by
  obtain ⟨n, nc, m, K, g2, V, hm, h3, hw⟩ := SIM_S h
  have hn := K.2.2.1
  unfold F_X11_many F_X12_many
  rw [F_isIn, b1_some]
  have R := V_manyR (x := x) K.2.2.2.2 g2 hn hw hm
  by_cases hx : wi x (ci 0) (ci 2) = 0
  · have ny : ∀ c : Nat, c ≤ 2 → ¬ x = cn c := fun c hc e => by
      rw [e] at hx
      have : ∀ c, c ≤ 2 → ¬ wi (cn c) (ci 0) (ci 2) = 0 := by decide
      exact this c hc hx
    rw [if_pos hx, if_neg (show ¬ x = ci 0 from ny 0 (by omega)), if_neg (show ¬ x = ci 1 from ny 1 (by omega)), if_neg (show ¬ x = ci 2 from ny 2 (by omega))]
    exact rel_some rfl
  · obtain ⟨c, hc, ey⟩ := wi_cn (l := 2) (by omega) hx
    rw [if_neg hx]
    rcases (show c = 0 ∨ c = 1 ∨ c = 2 by omega) with e | e | e <;> rw [e] at ey
    · rw [if_pos (show x = ci 0 from ey)]
      refine rel_l2 (V_sumC hI K h3 hm) (fun v s qo => ?_)
      have q : v = (sN (b.1 89) m n / cl 1000000).toInt32 := qo
      exact rel_sp R (fun v' qv => show v = v'.1 from q.trans (qv.1 (ey.trans (by decide))).symm)
    · rw [if_neg (show ¬ x = ci 0 by rw [ey]; decide), if_pos (show x = ci 1 from ey)]
      refine rel_l2 (V_likeC (x := ci 0) hI K h3 hw hm) (fun v s qo => ?_)
      have q : v = cn (lkN (dN (b.1 89) m 12 n) n) := qo.1 (by decide)
      exact rel_sp R (fun v' qv => show v = v'.1 from q.trans (qv.2.1 ey).symm)
    · rw [if_neg (show ¬ x = ci 0 by rw [ey]; decide), if_neg (show ¬ x = ci 1 by rw [ey]; decide), if_pos (show x = ci 2 from ey)]
      refine rel_l2 (V_likeC (x := ci 1) hI K h3 hw hm) (fun v s qo => ?_)
      have q : Su v (dN (b.1 89) m 12 n (lkN (dN (b.1 89) m 12 n) n)) := qo.2 (by decide)
      exact rel_sp R (fun v' qv => show v = v'.1 from (Su_32 q).symm.trans (qv.2.2 (by rw [ey]; decide) (by rw [ey]; decide)).symm)
end
