/-! 5zo.sure -/
section
noncomputable section
/-! HOW SURE, on both sides -/
theorem l32 {z : Int64} (h : 0 ≤ z.toInt ∧ z.toInt ≤ 1000000) : z.toInt32.toInt = z.toInt := by
  rw [Int64.toInt_toInt32]
  exact Int.bmod_eq_of_le (by omega) (by omega)
/-- one number, here in 32 and there in 64 bits -/
def Su (x : Int32) (y : Int64) : Prop := y = x.toInt64 ∧ 0 ≤ x.toInt ∧ x.toInt ≤ 1000000
theorem Su_t {x : Int32} {y : Int64} (h : Su x y) : y.toInt = x.toInt := by rw [h.1, Int32.toInt_toInt64]
theorem Su_r {x : Int32} {y : Int64} (h : Su x y) : 0 ≤ y.toInt ∧ y.toInt ≤ 1000000 := by rw [Su_t h]; exact h.2
theorem Su_32 {x : Int32} {y : Int64} (h : Su x y) : y.toInt32 = x := Int32.toInt_inj.mp (by rw [l32 (Su_r h), Su_t h])
theorem Su_of {y : Int64} (h : 0 ≤ y.toInt ∧ y.toInt ≤ 1000000) : Su y.toInt32 y := ⟨Int64.toInt_inj.mp (by rw [Int32.toInt_toInt64, l32 h]), by rw [l32 h]; exact h⟩
theorem x64_sub {x : Int32} (h : 0 ≤ x.toInt ∧ x.toInt ≤ 1000000) : (ci 1000000 - x).toInt64 = cl 1000000 - x.toInt64 := Int64.toInt_inj.mp (by
  rw [Int32.toInt_toInt64, r_sub (by decide : (ci 1000000).toInt = 1000000) (rfl : x.toInt = _) (by omega) (by omega), l_sub (by decide : (cl 1000000).toInt = 1000000) (Int32.toInt_toInt64 x) (by omega) (by omega)])
theorem t64_sub {x : Int32} (h : 1 ≤ x.toInt ∧ x.toInt ≤ 999) : (c16 1000 - x).toInt64 = cl 1000 - x.toInt64 := Int64.toInt_inj.mp (by
  rw [Int32.toInt_toInt64, r_sub (by decide : (c16 1000).toInt = 1000) (rfl : x.toInt = _) (by omega) (by omega), l_sub (by decide : (cl 1000).toInt = 1000) (Int32.toInt_toInt64 x) (by omega) (by omega)])
/-- after one sign -/
def byAw (y p q : Int64) : Int64 := (cl 1000000 * (y * p)) / (y * p + (cl 1000000 - y) * q)
def byS (w : Nat → Int32) (y : Int64) (k : Nat) (c : Int32) : Int64 := if c = ci 1 then byAw y (w (143 + 2 * k)).toInt64 (w (143 + 2 * k + 1)).toInt64 else byAw y (c16 1000 - w (143 + 2 * k)).toInt64 (c16 1000 - w (143 + 2 * k + 1)).toInt64
theorem byA_ok {b : mG} {y p q : Int64} (hI : IM b) (h1 : 0 ≤ y.toInt ∧ y.toInt ≤ 1000000) (h2 : 1 ≤ p.toInt ∧ p.toInt ≤ 999) (h3 : 1 ≤ q.toInt ∧ q.toInt ≤ 999) : ¬ y * p + (cl 1000000 - y) * q = 0 ∧ 0 ≤ (byAw y p q).toInt ∧ (byAw y p q).toInt ≤ 1000000 := by
  obtain ⟨v, e, r⟩ := T_X12_byA (s := b) h1 h2 h3 hI
  unfold F_X12_byA at e
  obtain ⟨hD, e⟩ := m_gn e
  have e := Option.some.inj e
  refine ⟨hD, ?_⟩
  unfold byAw
  rw [e]
  exact r
theorem sg_r {b : mG} {m k : Nat} (hI : IM b) (hw : b.1 89 115 = cn m) (hm : m ≤ 6) (hk : k < m) : (1 ≤ (b.1 89 (143 + 2 * k)).toInt ∧ (b.1 89 (143 + 2 * k)).toInt ≤ 999) ∧ 1 ≤ (b.1 89 (143 + 2 * k + 1)).toInt ∧ (b.1 89 (143 + 2 * k + 1)).toInt ≤ 999 := by
  have W8 := hI.1.2.2.2.2.2.2.2.1
  have e : (b.1 89 115).toInt = m := by rw [hw, t_cn (by omega)]
  exact ⟨W8 (2 * k) (by omega) (by omega), W8 (2 * k + 1) (by omega) (by omega)⟩
theorem byS_r {b : mG} {y : Int64} {m k : Nat} {c : Int32} (hI : IM b) (hw : b.1 89 115 = cn m) (hm : m ≤ 6) (hk : k < m) (hy : 0 ≤ y.toInt ∧ y.toInt ≤ 1000000) : 0 ≤ (byS (b.1 89) y k c).toInt ∧ (byS (b.1 89) y k c).toInt ≤ 1000000 := by
  obtain ⟨r1, r2⟩ := sg_r hI hw hm hk
  unfold byS
  by_cases h : c = ci 1
  · rw [if_pos h]
    exact (byA_ok hI hy (i64_r r1) (i64_r r2)).2
  · rw [if_neg h]
    exact (byA_ok hI hy (i64_r (s1000 r1)) (i64_r (s1000 r2))).2
theorem V_bySignR {b : mG} {y : Int64} {k : Nat} {c : Int32} (hk : k < 6) : pk (F_X12_bySign b y (cn k) c) (fun v => v = byS (b.1 89) y k c) := by
  unfold F_X12_bySign
  rw [show ci 2 * cn k = cn (2 * k) from cn_mul (a := 2) (by omega) (by omega) (by omega), show c16 143 + cn (2 * k) = cn (143 + 2 * k) from cn_add (a := 143) (by omega), show cn (143 + 2 * k) + ci 1 = cn (143 + 2 * k + 1) from cn_add (b := 1) (by omega), cn_nat (n := 143 + 2 * k) (by omega), cn_nat (n := 143 + 2 * k + 1) (by omega)]
  dsimp only
  refine pk_nn (pk_nn ?_)
  unfold F_X12_byA byS
  by_cases h : c = ci 1
  · rw [if_pos h, if_pos h, b1_id]
    exact pk_nn (pk_some rfl)
  · rw [if_neg h, if_neg h, b1_id]
    exact pk_nn (pk_some rfl)
theorem after_70 {a b : mG} {x : Int32} {p q : Int64} (hI : IM b) (hx : 0 ≤ x.toInt ∧ x.toInt ≤ 1000000) (h2 : 1 ≤ p.toInt ∧ p.toInt ≤ 999) (h3 : 1 ≤ q.toInt ∧ q.toInt ≤ 999) : F_X0_sureAfter_70 a x (x.toInt64 * p) ((ci 1000000 - x).toInt64) q = some (byAw x.toInt64 p q).toInt32 := by
  have o := byA_ok hI (i64_r hx) h2 h3
  have z : cz 0 = (0 : Int64) := by decide
  unfold F_X0_sureAfter_70
  rw [x64_sub hx, if_neg (fun e => o.1 (((lg_cmp_eq _ _).mp e).trans z)), if_neg o.1]
  rfl
theorem V_afterC {a b : mG} {x c : Int32} {y : Int64} {m k : Nat} (hI : IM b) (HS : TWr 10 2 6 115 ixS a.1 (b.1 89)) (h3 : a.1 10 3 = cn m) (hm : m ≤ 6) (hk : k < m) (hs : Su x y) (hc : c = ci 0 ∨ c = ci 1) : pk (F_X0_sureAfter a x (cn k) c) (fun u => Su u (byS (b.1 89) y k c)) := by
  have hw : b.1 89 115 = cn m := by
    obtain ⟨_, _, m', _, g3, gc, _⟩ := HS
    rw [gc]; exact g3.symm.trans h3
  obtain ⟨r1, r2⟩ := sg_r hI hw hm hk
  have rr := byS_r (c := c) hI hw hm hk (Su_r hs)
  unfold F_X0_sureAfter
  rw [V_atS (c := 0) (k := ci 0) HS h3 hm hk (by decide) rfl, b1_some, V_atS (c := 1) (k := ci 1) HS h3 hm hk (by decide) rfl, b1_some, show ixS k 0 = 143 + 2 * k from rfl, show ixS k 1 = 143 + 2 * k + 1 from rfl]
  have ey := hs.1
  unfold byS at rr ⊢
  rcases hc with e | e
  · have n1 : ¬ c = ci 1 := by rw [e]; decide
    have n0 : c = 0 := by rw [e]; exact c0e0
    rw [if_neg n1] at rr ⊢
    rw [if_pos n0]
    unfold F_X0_sureAfter_47
    rw [if_pos n0, ← t64_sub r1, ← t64_sub r2, after_70 hI hs.2 (i64_r (s1000 r1)) (i64_r (s1000 r2)), ← ey]
    exact pk_some (Su_of rr)
  · have n0 : ¬ c = 0 := by rw [e]; exact c1n0
    rw [if_pos e] at rr ⊢
    rw [if_neg n0]
    unfold F_X0_sureAfter_47
    rw [if_neg n0, after_70 hI hs.2 (i64_r r1) (i64_r r2), ← ey]
    exact pk_some (Su_of rr)
/-- after the first k signs -/
def sStart (w : Nat → Int32) (g : Nat) : Int64 := (c16 1000 * LVn w g 5).toInt64
def sFold (w : Nat → Int32) (y : Int64) (gl : Nat → Int32) : Nat → Int64
  | 0 => y
  | k + 1 => if gl k = ci (-1) then sFold w y gl k else byS w (sFold w y gl k) k (gl k)
theorem sFold_0 {w : Nat → Int32} {y : Int64} {gl : Nat → Int32} : sFold w y gl 0 = y := rfl
theorem sFold_same {w : Nat → Int32} {y : Int64} {gl gl' : Nat → Int32} : ∀ k, (∀ i, i < k → gl i = gl' i) → sFold w y gl k = sFold w y gl' k := by
  intro k
  induction k with
  | zero => intro _; rfl
  | succ k ih =>
    intro h
    unfold sFold
    rw [ih (fun i hi => h i (by omega)), h k (by omega)]
theorem sStart_u {w : Nat → Int32} {g : Nat} : Su (c16 1000 * LVn w g 5) (sStart w g) := by
  have b := LV_b (w := w) (f := FAc w g (w 0) (w 113) (w (27 + g))) (x := 5) (by decide)
  have b : 0 ≤ (LVn w g 5).toInt ∧ (LVn w g 5).toInt ≤ 1000 := b
  refine ⟨rfl, ?_⟩
  rw [r_mul (by decide : (c16 1000).toInt = 1000) (rfl : (LVn w g 5).toInt = _) (by omega) (by omega)]
  omega
/-- what was seen of a guest -/
def glw (w : Nat → Int32) (g k : Nat) : Int32 := w (39 + 6 * g + k)
theorem V_glance {w : Nat → Int32} {n nc g : Nat} {a : mG} (K : HK w n nc a) (hg : g < n) : pk (F_X0_glanceAt (cn g) a) (fun u => (∀ k, k < 6 → u.1 74 k = glw w g k) ∧ ∀ j, j ≠ 74 → u.1 j = a.1 j) := by
  have hn := K.2.2.1
  unfold F_X0_glanceAt F_X0_glanceAt_L2
  refine pk_whl (fun v => v.1 = cn g ∧ ∃ k, k ≤ 6 ∧ v.2.1 = cn k ∧ (∀ i, i < k → v.2.2.1 74 i = glw w g i) ∧ ∀ j, j ≠ 74 → v.2.2.1 j = a.1 j) ⟨rfl, 0, by omega, rfl, fun i hi => absurd hi (by omega), fun _ _ => rfl⟩ (fun v hv => ?_)
  obtain ⟨x1, x2, s⟩ := v
  obtain ⟨q1o, k, hk, q2o, q3o, ro⟩ := hv
  have q1 : x1 = cn g := q1o
  have q2 : x2 = cn k := q2o
  have q3 : ∀ i, i < k → s.1 74 i = glw w g i := q3o
  have r : ∀ j, j ≠ 74 → s.1 j = a.1 j := ro
  subst q1; subst q2
  unfold F_X0_glanceAt_B2
  dsimp only
  by_cases h6 : 6 ≤ k
  · rw [if_pos ((cn_le (by omega) (by omega)).mpr h6)]
    exact pk_some (show (∀ k, k < 6 → s.1 74 k = glw w g k) ∧ _ from ⟨fun i hi => q3 i (by omega), r⟩)
  · have HG : TWr 2 11 12 112 ixG s.1 w := TWr_same K.1.1 (r 2 (by decide)) (r 3 (by decide)) rfl (fun _ _ _ _ => rfl)
    rw [if_neg (fun q => h6 ((cn_le (by omega) (by omega)).mp q)), show ci 5 + cn k = cn (5 + k) from cn_add (a := 5) (by omega), V_atG (c := 5 + k) HG (by rw [r 2 (by decide)]; exact K.2.1) hn hg (by omega) rfl, b1_some, cn_nat (n := k) (by omega), ixG_5]
    refine pk_nn (pk_some (show _ ∧ ∃ k', _ from ⟨rfl, k + 1, by omega, cnu (by omega), fun i hi => ?_, fun j hj => (mu_row hj).trans (r j hj)⟩))
    show mu s.1 74 k (w (39 + 6 * g + k)) 74 i = glw w g i
    by_cases e : i = k
    · subst e; exact mu_same
    · rw [mu_cell (Or.inr e)]
      exact q3 i (by omega)
theorem V_byGlance {b u : mG} {n nc g m : Nat} {gl : Nat → Int32} (hI : IM b) (K : HK (b.1 89) n nc u) (hg : g < n) (h3 : u.1 10 3 = cn m) (hm : m ≤ 6) (h74 : ∀ k, k < 6 → u.1 74 k = gl k) : pk (F_X0_sureByGlance (cn g) u) (fun τ => Su τ.1 (sFold (b.1 89) (sStart (b.1 89) g) gl m) ∧ ∀ j, j ≠ 69 → j ≠ 70 → τ.2.1 j = u.1 j) := by
  have hw : b.1 89 115 = cn m := by
    obtain ⟨_, _, m', _, g3, gc, _⟩ := K.1.2.2.2.2.1
    rw [gc]; exact g3.symm.trans h3
  unfold F_X0_sureByGlance
  refine pk_b1 (V_faceK K hg) (fun u1 q1 => ?_)
  obtain ⟨k1, r1⟩ := q1
  rw [show ci 5 = cn 5 from rfl]
  refine pk_b2 (V_tellsK (x := 5) (HK_row K (fun j h1 _ _ => r1 j h1)) k1 (by decide)) (fun v5 s4 qt => ?_)
  obtain ⟨t1o, t2o⟩ := qt
  have t1 : v5 = LVn (b.1 89) g 5 := t1o
  have t2 : ∀ j, j ≠ 70 → s4.1 j = u1.1 j := t2o
  have fr : ∀ j, j ≠ 69 → j ≠ 70 → s4.1 j = u.1 j := fun j h1 h2 => (t2 j h2).trans (r1 j h1)
  have e0 : v5 * c16 1000 = c16 1000 * LVn (b.1 89) g 5 := by rw [t1, Int32.mul_comm]
  rw [e0]
  unfold F_X0_sureByGlance_L23
  refine pk_whl (fun v => ∃ k, k ≤ m ∧ v.2.1 = cn k ∧ Su v.1 (sFold (b.1 89) (sStart (b.1 89) g) gl k) ∧ ∀ j, j ≠ 69 → j ≠ 70 → v.2.2.1 j = u.1 j) ⟨0, Nat.zero_le _, rfl, by rw [sFold_0]; exact sStart_u, fr⟩ (fun v hv => ?_)
  obtain ⟨x2, x3, s⟩ := v
  obtain ⟨k, hk, p1o, p2o, ro⟩ := hv
  have p1 : x3 = cn k := p1o
  have p2 : Su x2 (sFold (b.1 89) (sStart (b.1 89) g) gl k) := p2o
  have r : ∀ j, j ≠ 69 → j ≠ 70 → s.1 j = u.1 j := ro
  subst p1
  have s10 : s.1 10 3 = cn m := by rw [r 10 (by decide) (by decide)]; exact h3
  have HS : TWr 10 2 6 115 ixS s.1 (b.1 89) := TWr_same K.1.2.2.2.2.1 (r 10 (by decide) (by decide)) (r 11 (by decide) (by decide)) rfl (fun _ _ _ _ => rfl)
  unfold F_X0_sureByGlance_B23 F_X0_sureByGlance_71 F_X0_sureByGlance_74
  dsimp only
  rw [s10]
  by_cases hkm : m ≤ k
  · have ek : k = m := by omega
    rw [if_pos ((cn_le (by omega) (by omega)).mpr hkm)]
    rw [ek] at p2
    exact pk_some (show Su x2 _ ∧ _ from ⟨p2, r⟩)
  have fs : sFold (b.1 89) (sStart (b.1 89) g) gl (k + 1) = if gl k = ci (-1) then sFold (b.1 89) (sStart (b.1 89) g) gl k else byS (b.1 89) (sFold (b.1 89) (sStart (b.1 89) g) gl k) k (gl k) := rfl
  rw [if_neg (fun q => hkm ((cn_le (by omega) (by omega)).mp q)), V_cellJ sh74 (by omega) (by decide), b1_some, show s.1 74 k = gl k by rw [r 74 (by decide) (by decide)]; exact h74 k (by omega)]
  by_cases e1 : gl k = ci (-1)
  · rw [if_pos e1]
    exact pk_some (show ∃ k', _ from ⟨k + 1, by omega, cnu (by omega), by rw [fs, if_pos e1]; exact p2, r⟩)
  rw [if_neg e1]
  by_cases e2 : gl k = ci 1
  · rw [if_pos e2]
    refine pk_b1 (V_afterC hI HS s10 hm (by omega) p2 (Or.inr rfl)) (fun z hz => ?_)
    exact pk_some (show ∃ k', _ from ⟨k + 1, by omega, cnu (by omega), by rw [fs, if_neg e1, e2]; exact hz, r⟩)
  · rw [if_neg e2]
    refine pk_b1 (V_afterC hI HS s10 hm (by omega) p2 (Or.inl rfl)) (fun z hz => ?_)
    have eq : byS (b.1 89) (sFold (b.1 89) (sStart (b.1 89) g) gl k) k (gl k) = byS (b.1 89) (sFold (b.1 89) (sStart (b.1 89) g) gl k) k (ci 0) := by
      unfold byS
      rw [if_neg e2, if_neg (show ¬ ci 0 = ci 1 by decide)]
    exact pk_some (show ∃ k', _ from ⟨k + 1, by omega, cnu (by omega), by rw [fs, if_neg e1, eq]; exact hz, r⟩)
theorem V_sureC {a b : mG} {n nc g m : Nat} (hI : IM b) (K : HK (b.1 89) n nc a) (hg : g < n) (h3 : a.1 10 3 = cn m) (hm : m ≤ 6) : pk (F_X0_sureOf (cn g) a) (fun τ => Su τ.1 (sFold (b.1 89) (sStart (b.1 89) g) (glw (b.1 89) g) m) ∧ (∀ k, k < 6 → τ.2.1 74 k = glw (b.1 89) g k) ∧ ∀ j, j ≠ 69 → j ≠ 70 → j ≠ 74 → τ.2.1 j = a.1 j) := by
  unfold F_X0_sureOf
  refine pk_b1 (V_glance K hg) (fun u q => ?_)
  obtain ⟨q1, q2⟩ := q
  have Ku : HK (b.1 89) n nc u := by
    obtain ⟨h1, h2, h3', h4, h5⟩ := K
    refine ⟨HSr1_row h1 (fun j _ h2 => q2 j (by omega)) (fun _ _ => rfl), by rw [q2 2 (by decide)]; exact h2, h3', by rw [q2 8 (by decide)]; exact h4, h5⟩
  refine pk_b2 (V_byGlance hI Ku hg (by rw [q2 10 (by decide)]; exact h3) hm q1) (fun v s qt => ?_)
  obtain ⟨t1, t2o⟩ := qt
  have t2 : ∀ j, j ≠ 69 → j ≠ 70 → s.1 j = u.1 j := t2o
  exact pk_some (show Su v _ ∧ _ ∧ _ from ⟨t1, fun k hk => by rw [show s.1 74 = u.1 74 from t2 74 (by decide) (by decide)]; exact q1 k hk, fun j h1 h2 h3 => (t2 j h1 h2).trans (q2 j h3)⟩)
theorem V_sureR {b : mG} {n nc g m : Nat} (L : LTy nc (b.1 89)) (hn : n ≤ 12) (hg : g < n) (hw : b.1 89 115 = cn m) (hm : m ≤ 6) : pk (F_X12_sureOf (cn g) b) (fun τ => τ.1 = sFold (b.1 89) (sStart (b.1 89) g) (glw (b.1 89) g) m ∧ ∀ j, j ≠ 96 → j ≠ 97 → τ.2.1 j = b.1 j) := by
  unfold F_X12_sureOf
  rw [show c8 25 = cn (20 + 5) by decide]
  refine pk_b2 (V_saysNow (x := 5) L (by omega : g < 12) (by omega)) (fun v3 s2 qt => ?_)
  obtain ⟨t1o, t2o⟩ := qt
  have t1 : v3 = LVn (b.1 89) g 5 := t1o
  have t2 : ∀ j, j ≠ 96 → j ≠ 97 → s2.1 j = b.1 j := t2o
  dsimp only
  rw [t1]
  unfold F_X12_sureOf_L16
  refine pk_whl (fun v => v.1 = cn g ∧ ∃ k, k ≤ m ∧ v.2.2.1 = cn k ∧ v.2.1 = sFold (b.1 89) (sStart (b.1 89) g) (glw (b.1 89) g) k ∧ ∀ j, j ≠ 96 → j ≠ 97 → v.2.2.2.1 j = b.1 j) ⟨rfl, 0, Nat.zero_le _, rfl, rfl, t2⟩ (fun v hv => ?_)
  obtain ⟨x1, x2, x4, s⟩ := v
  obtain ⟨p0o, k, hk, p1o, p2o, ro⟩ := hv
  have p0 : x1 = cn g := p0o
  have p1 : x4 = cn k := p1o
  have p2 : x2 = sFold (b.1 89) (sStart (b.1 89) g) (glw (b.1 89) g) k := p2o
  have r : ∀ j, j ≠ 96 → j ≠ 97 → s.1 j = b.1 j := ro
  subst p0; subst p1; subst p2
  have e89 : s.1 89 = b.1 89 := r 89 (by decide) (by decide)
  unfold F_X12_sureOf_B16 F_X12_sureOf_70
  dsimp only
  rw [e89, hw]
  by_cases hkm : m ≤ k
  · have ek : k = m := by omega
    rw [if_pos ((cn_le (by omega) (by omega)).mpr hkm)]
    exact pk_some (show sFold (b.1 89) (sStart (b.1 89) g) (glw (b.1 89) g) k = sFold (b.1 89) (sStart (b.1 89) g) (glw (b.1 89) g) m ∧ _ from ⟨by rw [ek], r⟩)
  have fs : sFold (b.1 89) (sStart (b.1 89) g) (glw (b.1 89) g) (k + 1) = if glw (b.1 89) g k = ci (-1) then sFold (b.1 89) (sStart (b.1 89) g) (glw (b.1 89) g) k else byS (b.1 89) (sFold (b.1 89) (sStart (b.1 89) g) (glw (b.1 89) g) k) k (glw (b.1 89) g k) := rfl
  rw [if_neg (fun q => hkm ((cn_le (by omega) (by omega)).mp q)), ei_G (by omega), cn_nat (n := 39 + 6 * g + k) (by omega), show b.1 89 (39 + 6 * g + k) = glw (b.1 89) g k from rfl]
  refine pk_nn ?_
  by_cases e1 : glw (b.1 89) g k = ci (-1)
  · rw [if_pos e1]
    exact pk_some (show _ ∧ ∃ k', _ from ⟨rfl, k + 1, by omega, cnu (by omega), by rw [fs, if_pos e1], r⟩)
  rw [if_neg e1]
  refine pk_nn (pk_b1 (V_bySignR (by omega : k < 6)) (fun z hz => ?_))
  rw [e89] at hz
  exact pk_some (show _ ∧ ∃ k', _ from ⟨rfl, k + 1, by omega, cnu (by omega), by rw [fs, if_neg e1]; exact hz, r⟩)
/-- what a thinking call knows -/
theorem SIM_S {a b : mG} (h : SIM a b) : ∃ n nc m, HK (b.1 89) n nc a ∧ b.1 89 112 = cn n ∧ VIm n (b.1 89) ∧ m ≤ 6 ∧ a.1 10 3 = cn m ∧ b.1 89 115 = cn m := by
  obtain ⟨n, nc, K, g2, V⟩ := SIM_K h
  obtain ⟨_, _, m, hm, g3, gc, _⟩ := K.1.2.2.2.2.1
  exact ⟨n, nc, m, K, g2, V, hm, g3, gc⟩
theorem R_of {a b : mG} {x y : Int32} (hI : IM b) (h : SIM a b) : rel (F_X11_of x y a) (F_X12_of x y b) (fun τ υ => τ.1 = υ.1) := by
  obtain ⟨n, nc, m, K, g2, V, hm, h3, hw⟩ := SIM_S h
  have hn := K.2.2.1
  unfold F_X11_of F_X12_of
  rw [V_isGuest, V_isGuestR g2 hn, b1_some, b1_some, show a.1 (1 + 1) 3 = cn n from K.2.1]
  refine rel_ifs Iff.rfl (fun _ => rel_some rfl) (fun hx => ?_)
  obtain ⟨g, hg, ex⟩ := ig_cn (by omega) hx
  subst ex
  rw [V_within, b1_some]
  dsimp only
  by_cases hy : wi y (ci 0) (ci 4) = 0
  · have ny : ∀ c : Nat, c ≤ 4 → ¬ y = cn c := fun c hc e => by
      rw [e] at hy
      have : ∀ c, c ≤ 4 → ¬ wi (cn c) (ci 0) (ci 4) = 0 := by decide
      exact this c hc hy
    rw [if_pos hy, if_neg (show ¬ y = ci 0 from ny 0 (by omega)), if_neg (show ¬ y = ci 1 from ny 1 (by omega)), if_neg (show ¬ y = ci 2 from ny 2 (by omega)), if_neg (show ¬ y = ci 3 from ny 3 (by omega)), if_neg (show ¬ y = ci 4 from ny 4 (by omega))]
    by_cases h5 : y = ci 5
    · rw [if_pos h5, if_pos h5]
      refine rel_b2 (rel_pk (R := fun τ υ => Su τ.1 υ.1) (V_sureC hI K hg h3 hm) (V_sureR K.2.2.2.2 hn hg hw hm) (fun u v p q => by rw [q.1]; exact p.1)) (fun u u' v v' e => ?_)
      have e : Su u v := e
      exact rel_some (show u = v.toInt32 from (Su_32 e).symm)
    rw [if_neg h5, if_neg h5, V_within, F_isIn, b1_some, b1_some]
    refine rel_ifs Iff.rfl (fun _ => rel_some rfl) (fun hz => ?_)
    obtain ⟨z, hz6, ez⟩ : ∃ z : Nat, z < 6 ∧ y = cn (6 + z) := by
      obtain ⟨z1, z2⟩ := wi_f hz
      rw [show (c8 6).toInt = 6 by decide] at z1
      rw [show (c8 11).toInt = 11 by decide] at z2
      exact ⟨y.toInt.toNat - 6, by omega, by rw [show 6 + (y.toInt.toNat - 6) = y.toInt.toNat by omega]; exact cnof (by omega)⟩
    rw [show y - c8 6 = cn z by rw [ez, show c8 6 = cn 6 by decide, cn_sub (by omega) (by omega)]; congr 1; omega, show (c8 20 + y) - c8 6 = cn (20 + z) by rw [ez, show c8 20 = cn 20 by decide, show c8 6 = cn 6 by decide, cn_add (by omega), cn_sub (by omega) (by omega)]; congr 1; omega]
    refine rel_l1 (V_faceK K hg) (fun u qu => ?_)
    refine rel_b2 (rel_pk (R := fun τ υ => τ.1 = υ.1) (V_tellsK (x := z) (HK_row K (fun j h1 _ _ => qu.2 j h1)) qu.1 hz6) (V_saysNow K.2.2.2.2 (by omega : g < 12) hz6) (fun u v p q => p.1.trans q.1.symm)) (fun u u' v v' e => rel_some e)
  · obtain ⟨c, hc, ey⟩ := wi_cn (l := 4) (by omega) hy
    subst ey
    rw [if_neg hy, V_atG (c := c) K.1.1 K.2.1 hn hg (by omega) rfl, b1_some, show c8 119 + cn g = cn (119 + g) from cn_add (a := 119) (by omega), show c16 131 + cn g = cn (131 + g) from cn_add (a := 131) (by omega), show ci 3 + cn g = cn (3 + g) from cn_add (a := 3) (by omega), show c8 15 + cn g = cn (15 + g) from cn_add (a := 15) (by omega), show c8 27 + cn g = cn (27 + g) from cn_add (a := 27) (by omega), cn_nat (n := 119 + g) (by omega), cn_nat (n := 131 + g) (by omega), cn_nat (n := 3 + g) (by omega), cn_nat (n := 15 + g) (by omega), cn_nat (n := 27 + g) (by omega)]
    rcases (show c = 0 ∨ c = 1 ∨ c = 2 ∨ c = 3 ∨ c = 4 by omega) with e | e | e | e | e <;> subst e
    · rw [if_pos (show cn 0 = ci 0 from rfl)]
      exact rel_rg (rel_some rfl)
    · rw [if_neg (show ¬ cn 1 = ci 0 by decide), if_pos (show cn 1 = ci 1 from rfl)]
      exact rel_rg (rel_some rfl)
    · rw [if_neg (show ¬ cn 2 = ci 0 by decide), if_neg (show ¬ cn 2 = ci 1 by decide), if_pos (show cn 2 = ci 2 from rfl)]
      exact rel_rg (rel_some rfl)
    · rw [if_neg (show ¬ cn 3 = ci 0 by decide), if_neg (show ¬ cn 3 = ci 1 by decide), if_neg (show ¬ cn 3 = ci 2 by decide), if_pos (show cn 3 = ci 3 from rfl)]
      exact rel_rg (rel_some rfl)
    · rw [if_neg (show ¬ cn 4 = ci 0 by decide), if_neg (show ¬ cn 4 = ci 1 by decide), if_neg (show ¬ cn 4 = ci 2 by decide), if_neg (show ¬ cn 4 = ci 3 by decide), if_pos (show cn 4 = ci 4 from rfl)]
      exact rel_rg (rel_some rfl)
end
end
/-! 5zp1.visit -/
section
noncomputable section
/-! THE BEST HOUR FOR A VISIT, on both sides -/
theorem Su_le {x x' : Int32} {y y' : Int64} (h : Su x y) (h' : Su x' y') : x ≤ x' ↔ ¬ 0 < lg_cmp y y' := by
  have e1 := Su_t h
  have e2 := Su_t h'
  have e3 := lg_cmp_gt y y'
  rw [Int64.lt_iff_toInt_lt, e1, e2] at e3
  rw [e3, Int32.le_iff_toInt_le]
  exact Int.not_lt.symm
theorem mix_i {X P Q : Int} (h0 : 0 ≤ X) (h1 : X ≤ 1000000) (p0 : 0 ≤ P) (p1 : P ≤ 1000) (q0 : 0 ≤ Q) (q1 : Q ≤ 1000) : ∃ A B C D : Int, X * P = A ∧ (1000000 - X) * Q = B ∧ A / 1000 = C ∧ B / 1000 = D ∧ (0 ≤ A ∧ A < 2147483648) ∧ (0 ≤ B ∧ B < 2147483648) ∧ (0 ≤ X - C ∧ X - C < 2147483648) ∧ 0 ≤ X - C + D ∧ X - C + D ≤ 1000000 := by
  have a0 : 0 ≤ X * P := Int.mul_nonneg h0 p0
  have a1 : X * P ≤ X * 1000 := Int.mul_le_mul_of_nonneg_left p1 h0
  have d0 : 0 ≤ (1000000 - X) * Q := Int.mul_nonneg (by omega) q0
  have d1 : (1000000 - X) * Q ≤ (1000000 - X) * 1000 := Int.mul_le_mul_of_nonneg_left q1 (by omega)
  generalize X * P = A at a0 a1
  generalize (1000000 - X) * Q = B at d0 d1
  exact ⟨A, B, A / 1000, B / 1000, rfl, rfl, rfl, rfl, ⟨a0, by omega⟩, ⟨d0, by omega⟩, ⟨by omega, by omega⟩, by omega, by omega⟩
end
end
/-! 5zp2.visit -/
section
noncomputable section
theorem lo32 {A : Int} (h : 0 ≤ A ∧ A < 2147483648) : (-2147483648 ≤ A ∧ A < 2147483648) ∧ -9223372036854775808 ≤ A ∧ A < 9223372036854775808 := by omega
theorem mix_32 {x p q : Int32} {A B C D : Int} (hx : 0 ≤ x.toInt ∧ x.toInt ≤ 1000000) (hA : x.toInt * p.toInt = A) (hB : (1000000 - x.toInt) * q.toInt = B) (hC : A / 1000 = C) (hD : B / 1000 = D) (a : 0 ≤ A ∧ A < 2147483648) (b : 0 ≤ B ∧ B < 2147483648) (c : 0 ≤ x.toInt - C ∧ x.toInt - C < 2147483648) (d : 0 ≤ x.toInt - C + D ∧ x.toInt - C + D < 2147483648) : ((x - (x * p) / c16 1000) + ((ci 1000000 - x) * q) / c16 1000).toInt = x.toInt - C + D := by
  have s1 : (ci 1000000 - x).toInt = 1000000 - x.toInt := r_sub (by decide : (ci 1000000).toInt = 1000000) rfl (by omega) (by omega)
  have aa := (lo32 a).1
  have bb := (lo32 b).1
  have cc := (lo32 c).1
  have dd := (lo32 d).1
  have k : (c16 1000).toInt = 1000 := by decide
  have c1 : (x * p).toInt = A := by
    rw [← hA] at aa ⊢
    exact r_mul rfl rfl aa.1 aa.2
  have c2 : ((ci 1000000 - x) * q).toInt = B := by
    rw [← hB] at bb ⊢
    exact r_mul s1 rfl bb.1 bb.2
  have f1 : ((x * p) / c16 1000).toInt = C := (t_div c1 k a.1 (by decide)).trans hC
  have f2 : (((ci 1000000 - x) * q) / c16 1000).toInt = D := (t_div c2 k b.1 (by decide)).trans hD
  have u1 : (x - (x * p) / c16 1000).toInt = x.toInt - C := r_sub rfl f1 cc.1 cc.2
  exact r_add u1 f2 dd.1 dd.2
theorem mix_64 {X : Int} {y p q : Int64} {P Q A B C D : Int} (hy : y.toInt = X) (hp : p.toInt = P) (hq : q.toInt = Q) (hx : 0 ≤ X ∧ X ≤ 1000000) (hA : X * P = A) (hB : (1000000 - X) * Q = B) (hC : A / 1000 = C) (hD : B / 1000 = D) (a : 0 ≤ A ∧ A < 2147483648) (b : 0 ≤ B ∧ B < 2147483648) (c : 0 ≤ X - C ∧ X - C < 2147483648) (d : 0 ≤ X - C + D ∧ X - C + D < 2147483648) : ((y - (y * p) / cl 1000) + ((cl 1000000 - y) * q) / cl 1000).toInt = X - C + D := by
  have s1 : (cl 1000000 - y).toInt = 1000000 - X := l_sub (by decide : (cl 1000000).toInt = 1000000) hy (by omega) (by omega)
  have aa := (lo32 a).2
  have bb := (lo32 b).2
  have cc := (lo32 c).2
  have dd := (lo32 d).2
  have k : (cl 1000).toInt = 1000 := by decide
  have c1 : (y * p).toInt = A := by
    rw [← hA] at aa ⊢
    exact l_mul hy hp aa.1 aa.2
  have c2 : ((cl 1000000 - y) * q).toInt = B := by
    rw [← hB] at bb ⊢
    exact l_mul s1 hq bb.1 bb.2
  have f1 : ((y * p) / cl 1000).toInt = C := (l_div c1 k a.1 (by decide) aa.2).trans hC
  have f2 : (((cl 1000000 - y) * q) / cl 1000).toInt = D := (l_div c2 k b.1 (by decide) bb.2).trans hD
  have u1 : (y - (y * p) / cl 1000).toInt = X - C := l_sub hy f1 cc.1 cc.2
  exact l_add u1 f2 dd.1 dd.2
theorem Su_mix {x p q : Int32} {y : Int64} (h : Su x y) (hp : 0 ≤ p.toInt ∧ p.toInt ≤ 1000) (hq : 0 ≤ q.toInt ∧ q.toInt ≤ 1000) : Su ((x - (x * p) / c16 1000) + ((ci 1000000 - x) * q) / c16 1000) ((y - (y * p.toInt64) / cl 1000) + ((cl 1000000 - y) * q.toInt64) / cl 1000) := by
  obtain ⟨A, B, C, D, hA, hB, hC, hD, ra, rb, rc, d1, d2⟩ := mix_i h.2.1 h.2.2 hp.1 hp.2 hq.1 hq.2
  have rd : 0 ≤ x.toInt - C + D ∧ x.toInt - C + D < 2147483648 := ⟨d1, Int.lt_of_le_of_lt d2 (by decide)⟩
  have u := mix_32 h.2 hA hB hC hD ra rb rc rd
  have v := mix_64 (Su_t h) (Int32.toInt_toInt64 p) (Int32.toInt_toInt64 q) h.2 hA hB hC hD ra rb rc rd
  refine (show _ ∧ _ ∧ _ from ⟨Int64.toInt_inj.mp (v.trans ((Int32.toInt_toInt64 _).trans u).symm), ?_, ?_⟩)
  · rw [u]; exact d1
  · rw [u]; exact d2
end
end
/-! 5zp3.visit -/
section
noncomputable section
/-- one more hour -/
theorem hr_k {h : Int32} {k : Nat} (hk : k + 1 < 2147483648) : (h + cn (k + 1)) - ci 1 = h + cn k := by
  rw [← cnu hk, ← Int32.add_assoc, Int32.add_sub_cancel]
end
end
/-! 5zp4.visit -/
section
noncomputable section
theorem R_best {a b : mG} {n nc g : Nat} {x c : Int32} {y : Int64} (K : HK (b.1 89) n nc a) (hg : g < n) (hs : Su x y) {z : mG} (hz : ∀ j, j ≠ 96 → j ≠ 97 → z.1 j = b.1 j) : rel (F_X1_bestVisit (cn g) x c a) (F_X12_visit_L34 (cn g) c y (ci 0) y (ci 0) z) (fun τ υ => τ.1 = υ.1) := by
  have hn := K.2.2.1
  unfold F_X1_bestVisit
  refine rel_l1 (V_faceK K hg) (fun u0 q0 => ?_)
  obtain ⟨k0, r0⟩ := q0
  unfold F_X1_bestVisit_L20 F_X12_visit_L34
  refine rel_whl (fun v w => v.1 = c ∧ w.1 = cn g ∧ w.2.1 = c ∧ Su v.2.1 w.2.2.1 ∧ v.2.2.1 = w.2.2.2.1 ∧ Su v.2.2.2.1 w.2.2.2.2.1 ∧ (∃ k, k ≤ 23 ∧ v.2.2.2.2.1 = cn (k + 1) ∧ w.2.2.2.2.2.1 = cn k) ∧ (∃ hh, KNc (b.1 89) g hh (b.1 89 113) (b.1 89 (27 + g)) v.2.2.2.2.2) ∧ (∀ j, j ≠ 69 → j ≠ 70 → v.2.2.2.2.2.1 j = a.1 j) ∧ ∀ j, j ≠ 96 → j ≠ 97 → w.2.2.2.2.2.2.1 j = b.1 j) ⟨rfl, rfl, rfl, hs, rfl, hs, ⟨0, by omega, rfl, rfl⟩, ⟨_, k0⟩, fun j h1 _ => r0 j h1, hz⟩ (fun v w hvw => ?_)
  obtain ⟨x3, x4, x5, x6, x7, s⟩ := v
  obtain ⟨y1, y2, y3, y5, y6, y8, t⟩ := w
  obtain ⟨q1o, q2o, q3o, q4o, q5o, q6o, ⟨k, hk, q7o, q8o⟩, ⟨hh, kno⟩, r1o, r2o⟩ := hvw
  have q1 : x3 = c := q1o
  have q2 : y1 = cn g := q2o
  have q3 : y2 = c := q3o
  have q4 : Su x4 y3 := q4o
  have q5 : x5 = y5 := q5o
  have q6 : Su x6 y6 := q6o
  have q7 : x7 = cn (k + 1) := q7o
  have q8 : y8 = cn k := q8o
  have kn : KNc (b.1 89) g hh (b.1 89 113) (b.1 89 (27 + g)) s := kno
  have r1 : ∀ j, j ≠ 69 → j ≠ 70 → s.1 j = a.1 j := r1o
  have r2 : ∀ j, j ≠ 96 → j ≠ 97 → t.1 j = b.1 j := r2o
  clear q1o q2o q3o q4o q5o q6o q7o q8o kno r1o r2o
  rw [q1, q2, q3, q5, q7, q8]
  have Ks : HK (b.1 89) n nc s := HK_row K (fun j h1 h2 _ => r1 j h1 h2)
  have e89 : t.1 89 = b.1 89 := r2 89 (by decide) (by decide)
  have e10 : s.1 1 10 = b.1 89 0 := Ks.1.2.2.2.2.2.2.2.2.2.2.1
  unfold F_X1_bestVisit_B20 F_X12_visit_B34 F_X1_bestVisit_108 F_X12_visit_154
  dsimp only
  by_cases hk2 : 23 ≤ k
  · rw [if_pos (show c8 24 ≤ cn (k + 1) from (cn_le (a := 24) (by omega) (by omega)).mpr (by omega)), if_pos (show c8 23 ≤ cn k from (cn_le (a := 23) (by omega) (by omega)).mpr hk2)]
    refine rel_ifs Iff.rfl (fun _ => rel_some rfl) (fun _ => rel_some ?_)
    show x6 = y6.toInt32
    exact (Su_32 q6).symm
  rw [if_neg (show ¬ c8 24 ≤ cn (k + 1) from fun q => hk2 (by have := (cn_le (a := 24) (by omega) (by omega)).mp q; omega)), if_neg (show ¬ c8 23 ≤ cn k from fun q => hk2 ((cn_le (a := 23) (by omega) (by omega)).mp q)), e10, hr_k (by omega), show c8 27 + cn g = cn (27 + g) from cn_add (a := 27) (by omega), cn_nat (n := 27 + g) (by omega), e89, show c8 20 = cn (20 + 0) by decide, show c8 21 = cn (20 + 1) by decide]
  refine rel_rg ?_
  refine rel_l1 (V_supposeHour kn) (fun u qu => ?_)
  obtain ⟨k1, f1⟩ := qu
  have Ku : HK (b.1 89) n nc u := HK_row Ks (fun j h1 _ _ => f1 j h1)
  rw [show ci 0 = cn 0 from rfl, show ci 1 = cn 1 from rfl]
  refine rel_l2 (V_tellsK (x := 0) Ku k1 (by decide)) (fun v9 s8 qt => ?_)
  obtain ⟨t1o, t2o⟩ := qt
  have t1 : v9 = LV (b.1 89) (FAc (b.1 89) g (b.1 89 0 + cn k) (b.1 89 113) (b.1 89 (27 + g))) 0 := t1o
  have t2 : ∀ j, j ≠ 70 → s8.1 j = u.1 j := t2o
  have k2 : KNc (b.1 89) g (b.1 89 0 + cn k) (b.1 89 113) (b.1 89 (27 + g)) s8 := fun j hj => by rw [t2 69 (by decide)]; exact k1 j hj
  have K8 : HK (b.1 89) n nc s8 := HK_row Ku (fun j _ h2 _ => t2 j h2)
  refine rel_l2 (V_tellsK (x := 1) K8 k2 (by decide)) (fun v13 s12 qt => ?_)
  obtain ⟨t3o, t4o⟩ := qt
  have t3 : v13 = LV (b.1 89) (FAc (b.1 89) g (b.1 89 0 + cn k) (b.1 89 113) (b.1 89 (27 + g))) 1 := t3o
  have t4 : ∀ j, j ≠ 70 → s12.1 j = s8.1 j := t4o
  have k3 : KNc (b.1 89) g (b.1 89 0 + cn k) (b.1 89 113) (b.1 89 (27 + g)) s12 := fun j hj => by rw [t4 69 (by decide)]; exact k2 j hj
  have fr : ∀ j, j ≠ 69 → j ≠ 70 → s12.1 j = a.1 j := fun j h1 h2 => (t4 j h2).trans ((t2 j h2).trans ((f1 j h1).trans (r1 j h1 h2)))
  refine rel_r2 (V_says (x := 0) (nc := nc) (by rw [e89]; exact K.2.2.2.2) (by omega : g < 12) (by decide)) (fun v15 s14 qs => ?_)
  obtain ⟨u1o, u2o⟩ := qs
  rw [e89] at u1o
  have u1 : v15 = LV (b.1 89) (FAc (b.1 89) g (b.1 89 0 + cn k) (b.1 89 113) (b.1 89 (27 + g))) 0 := u1o
  have u2 : ∀ j, j ≠ 96 → j ≠ 97 → s14.1 j = t.1 j := u2o
  have f89 : s14.1 89 = b.1 89 := (u2 89 (by decide) (by decide)).trans e89
  refine rel_rg ?_
  rw [f89]
  refine rel_r2 (V_says (x := 1) (nc := nc) (by rw [f89]; exact K.2.2.2.2) (by omega : g < 12) (by decide)) (fun v19 s18 qs => ?_)
  obtain ⟨w1o, w2o⟩ := qs
  rw [f89] at w1o
  have w1 : v19 = LV (b.1 89) (FAc (b.1 89) g (b.1 89 0 + cn k) (b.1 89 113) (b.1 89 (27 + g))) 1 := w1o
  have w2 : ∀ j, j ≠ 96 → j ≠ 97 → s18.1 j = s14.1 j := w2o
  have fr2 : ∀ j, j ≠ 96 → j ≠ 97 → s18.1 j = b.1 j := fun j h1 h2 => (w2 j h1 h2).trans ((u2 j h1 h2).trans (r2 j h1 h2))
  have ev : v9 = v15 := t1.trans u1.symm
  have ew : v13 = v19 := t3.trans w1.symm
  have b9 : 0 ≤ v15.toInt ∧ v15.toInt ≤ 1000 := by rw [u1]; exact LV_b (by decide)
  have b13 : 0 ≤ v19.toInt ∧ v19.toInt ≤ 1000 := by rw [w1]; exact LV_b (by decide)
  rw [ev, ew]
  have M := Su_mix q4 b9 b13
  refine rel_ri (fun hc => ?_) (fun hc => ?_)
  · rw [if_neg (fun q => (Su_le M q6).mp q hc)]
    exact rel_some (show _ ∧ _ ∧ _ ∧ _ ∧ _ ∧ _ ∧ (∃ k', _) ∧ _ ∧ _ ∧ _ from ⟨rfl, rfl, rfl, M, (cnu (by omega)).symm, M, ⟨k + 1, by omega, cnu (by omega), cnu (by omega)⟩, ⟨_, k3⟩, fr, fr2⟩)
  · rw [if_pos ((Su_le M q6).mpr hc)]
    exact rel_some (show _ ∧ _ ∧ _ ∧ _ ∧ _ ∧ _ ∧ (∃ k', _) ∧ _ ∧ _ ∧ _ from ⟨rfl, rfl, rfl, M, rfl, q6, ⟨k + 1, by omega, cnu (by omega), cnu (by omega)⟩, ⟨_, k3⟩, fr, fr2⟩)
end
end
/-! 5zp5.visit -/
section
noncomputable section
theorem R_visit {a b : mG} {x y : Int32} (hI : IM b) (h : SIM a b) : rel (F_X11_visit x y a) (F_X12_visit x y b) (fun τ υ => τ.1 = υ.1) := by
  obtain ⟨n, nc, m, K, g2, V, hm, h3, hw⟩ := SIM_S h
  have hn := K.2.2.1
  unfold F_X11_visit F_X12_visit F_X11_visit_20 F_X12_visit_17
  rw [V_isGuest, V_isGuestR g2 hn, b1_some, b1_some, show a.1 (1 + 1) 3 = cn n from K.2.1]
  refine rel_ifs Iff.rfl (fun _ => rel_some rfl) (fun hx => ?_)
  obtain ⟨g, hg, ex⟩ := ig_cn (by omega) hx
  subst ex
  rw [V_within, F_isIn, b1_some, b1_some]
  refine rel_ifs Iff.rfl (fun _ => rel_some rfl) (fun hy => ?_)
  refine rel_b2 (rel_pk (R := fun τ υ => Su τ.1 υ.1 ∧ (∀ j, j ≠ 69 → j ≠ 70 → j ≠ 74 → τ.2.1 j = a.1 j) ∧ ∀ j, j ≠ 96 → j ≠ 97 → υ.2.1 j = b.1 j) (V_sureC hI K hg h3 hm) (V_sureR K.2.2.2.2 hn hg hw hm) (fun u v p q => ⟨by rw [q.1]; exact p.1, p.2.2, q.2⟩)) (fun u s v t e => ?_)
  obtain ⟨e1o, e2o, e3o⟩ := e
  have e1 : Su u v := e1o
  have e2 : ∀ j, j ≠ 69 → j ≠ 70 → j ≠ 74 → s.1 j = a.1 j := e2o
  have e3 : ∀ j, j ≠ 96 → j ≠ 97 → t.1 j = b.1 j := e3o
  have Ks : HK (b.1 89) n nc s := by
    obtain ⟨h1, h2, h3', h4, h5⟩ := K
    refine ⟨?_, by rw [e2 2 (by decide) (by decide) (by decide)]; exact h2, h3', by rw [e2 8 (by decide) (by decide) (by decide)]; exact h4, h5⟩
    exact HSr1_row h1 (fun j _ h2 => e2 j (by omega) (by omega) (by omega)) (fun _ _ => rfl)
  unfold F_X11_visit_45
  obtain ⟨c, hc, ey⟩ := wi_cn (l := 1) (by omega) hy
  subst ey
  rcases (show c = 0 ∨ c = 1 by omega) with e | e <;> subst e
  · rw [if_neg (show ¬ cn 0 = ci 1 by decide), b2_id, show cn 0 = ci 0 from rfl]
    exact R_best Ks hg e1 e3
  · rw [if_pos (show cn 1 = ci 1 from rfl), b2_id, show cn 1 = ci 1 from rfl]
    exact R_best Ks hg e1 e3
end
end
/-! 5zq0.longs -/
section
noncomputable section
/-! ALL LONGS ARE KEPT -/
def KG (z s : mG) : Prop := s.2 = z.2
theorem KG_mu {z s : mG} {D : Nat → Nat → Int32} (h : KG z s) : KG z (D, s.2) := h
theorem G_X12_comesTo_180 {z : mG} {x1 : Int32} {x3 : Int32} {x4 : Int32} {x5 : Int32} {s : mG} (h : KG z s) : pk (F_X12_comesTo_180 x1 x3 x4 x5 s) (se (fun τ => KG z τ.2.2.2.2) (fun τ => KG z τ.2)) := by
  unfold F_X12_comesTo_180
  exact pk_some h
theorem G_X12_comesTo_86 {z : mG} {x1 : Int32} {x3 : Int32} {x4 : Int32} {x5 : Int32} {y1 : Int32} {y2 : Int32} {s : mG} (h : KG z s) : pk (F_X12_comesTo_86 x1 x3 x4 x5 y1 y2 s) (se (fun τ => KG z τ.2.2.2.2) (fun τ => KG z τ.2)) := by
  unfold F_X12_comesTo_86
  refine pk_nn ?_
  extract_lets +onlyGivenNames s_1
  have h_2 : KG z s_1 := KG_mu h
  clear_value s_1
  exact (G_X12_comesTo_180 h_2)
theorem G_X12_comesTo_B6 {z : mG} {x1 : Int32} {x3 : Int32} {x4 : Int32} {x5 : Int32} {s : mG} (h : KG z s) : pk (F_X12_comesTo_B6 x1 x3 x4 x5 s) (se (fun τ => KG z τ.2.2.2.2) (fun τ => KG z τ.2)) := by
  unfold F_X12_comesTo_B6
  refine pk_ite ?_ ?_
  · exact pk_some h
  · refine pk_nn ?_
    extract_lets +onlyGivenNames v_1
    clear_value v_1
    refine pk_nn ?_
    extract_lets +onlyGivenNames v_2
    clear_value v_2
    refine pk_ite ?_ ?_
    · refine pk_ite ?_ ?_
      · refine pk_nn ?_
        refine pk_nn ?_
        refine pk_nn ?_
        extract_lets +onlyGivenNames s_3
        have h_4 : KG z s_3 := KG_mu h
        clear_value s_3
        exact (G_X12_comesTo_180 h_4)
      · refine pk_ite ?_ ?_
        · refine pk_nn ?_
          refine pk_nn ?_
          extract_lets +onlyGivenNames s_5
          have h_6 : KG z s_5 := KG_mu h
          clear_value s_5
          exact (G_X12_comesTo_180 h_6)
        · refine pk_nn ?_
          refine pk_nn ?_
          refine pk_b1 pk_top (fun _ _ => ?_)
          refine pk_nn ?_
          extract_lets +onlyGivenNames s_7
          have h_8 : KG z s_7 := KG_mu h
          clear_value s_7
          exact (G_X12_comesTo_180 h_8)
    · refine pk_ite ?_ ?_
      · exact (G_X12_comesTo_86 h)
      · refine pk_nn ?_
        exact (G_X12_comesTo_86 h)
theorem G_X12_comesTo_L6 {z : mG} {x1 : Int32} {x3 : Int32} {x4 : Int32} {x5 : Int32} {s : mG} (h : KG z s) : pk (F_X12_comesTo_L6 x1 x3 x4 x5 s) (fun τ => KG z τ.2) := by
  unfold F_X12_comesTo_L6
  refine pk_whl (fun v => KG z v.2.2.2.2) h (fun v hv => ?_)
  obtain ⟨y0, y1, y2, y3, y4⟩ := v
  exact G_X12_comesTo_B6 hv
theorem G_X12_comesTo {z : mG} {a1 : Int32} {a2 : Int32} {a3 : Int32} {s : mG} (h : KG z s) : pk (F_X12_comesTo a1 a2 a3 s) (fun τ => KG z τ.2) := by
  unfold F_X12_comesTo
  exact (G_X12_comesTo_L6 h)
theorem G_X12_isSo_52 {z : mG} {s : mG} (h : KG z s) : pk (F_X12_isSo_52 s) (fun τ => KG z τ.2) := by
  unfold F_X12_isSo_52
  exact pk_some h
theorem G_X12_isSo {z : mG} {a1 : Int32} {s : mG} (h : KG z s) : pk (F_X12_isSo a1 s) (fun τ => KG z τ.2) := by
  unfold F_X12_isSo
  refine pk_nn ?_
  refine pk_nn ?_
  refine pk_ite ?_ ?_
  · exact (G_X12_isSo_52 h)
  · refine pk_nn ?_
    refine pk_nn ?_
    refine pk_b2 (G_X12_comesTo h) (fun _ s_1 (h_2 : KG z s_1) => ?_)
    refine pk_ite ?_ ?_
    · exact (G_X12_isSo_52 h_2)
    · exact pk_some h_2
theorem G_X12_saysIn_187 {z : mG} {x1 : Int32} {x2 : Int32} {x6 : Int32} {s : mG} (h : KG z s) : pk (F_X12_saysIn_187 x1 x2 x6 s) (se (fun τ => KG z τ.2.2.2) (fun τ => KG z τ.2)) := by
  unfold F_X12_saysIn_187
  exact pk_some h
theorem G_X12_saysIn_B113 {z : mG} {x1 : Int32} {x2 : Int32} {x6 : Int32} {s : mG} (h : KG z s) : pk (F_X12_saysIn_B113 x1 x2 x6 s) (se (fun τ => KG z τ.2.2.2) (fun τ => KG z τ.2)) := by
  unfold F_X12_saysIn_B113
  refine pk_ite ?_ ?_
  · refine pk_b1 pk_top (fun _ _ => ?_)
    exact pk_some h
  · refine pk_nn ?_
    refine pk_ite ?_ ?_
    · refine pk_b2 (G_X12_isSo h) (fun _ s_1 (h_2 : KG z s_1) => ?_)
      refine pk_ite ?_ ?_
      · exact (G_X12_saysIn_187 h_2)
      · refine pk_nn ?_
        refine pk_nn ?_
        refine pk_b2 (G_X12_comesTo h_2) (fun _ s_3 (h_4 : KG z s_3) => ?_)
        refine pk_b1 pk_top (fun _ _ => ?_)
        refine pk_b1 pk_top (fun _ _ => ?_)
        exact pk_some h_4
    · exact (G_X12_saysIn_187 h)
theorem G_X12_saysIn_L113 {z : mG} {x1 : Int32} {x2 : Int32} {x6 : Int32} {s : mG} (h : KG z s) : pk (F_X12_saysIn_L113 x1 x2 x6 s) (fun τ => KG z τ.2) := by
  unfold F_X12_saysIn_L113
  refine pk_whl (fun v => KG z v.2.2.2) h (fun v hv => ?_)
  obtain ⟨y0, y1, y2, y3⟩ := v
  exact G_X12_saysIn_B113 hv
theorem G_X12_saysIn_100 {z : mG} {x1 : Int32} {x2 : Int32} {x5 : Int32} {y1 : Int32} {y2 : Int32} {s : mG} (h : KG z s) : pk (F_X12_saysIn_100 x1 x2 x5 y1 y2 s) (fun τ => KG z τ.2) := by
  unfold F_X12_saysIn_100
  refine pk_nn ?_
  extract_lets +onlyGivenNames s_1
  have h_2 : KG z s_1 := KG_mu h
  clear_value s_1
  extract_lets +onlyGivenNames s_3
  have h_4 : KG z s_3 := KG_mu h_2
  clear_value s_3
  exact (G_X12_saysIn_L113 h_4)
theorem G_X12_saysIn {z : mG} {a1 : Int32} {a2 : Int32} {a3 : Int32} {a4 : Int32} {a5 : Int32} {s : mG} (h : KG z s) : pk (F_X12_saysIn a1 a2 a3 a4 a5 s) (fun τ => KG z τ.2) := by
  unfold F_X12_saysIn
  extract_lets +onlyGivenNames s_1
  have h_2 : KG z s_1 := KG_mu h
  clear_value s_1
  refine pk_nn ?_
  extract_lets +onlyGivenNames s_3
  have h_4 : KG z s_3 := KG_mu h_2
  clear_value s_3
  refine pk_nn ?_
  extract_lets +onlyGivenNames s_5
  have h_6 : KG z s_5 := KG_mu h_4
  clear_value s_5
  extract_lets +onlyGivenNames s_7
  have h_8 : KG z s_7 := KG_mu h_6
  clear_value s_7
  extract_lets +onlyGivenNames s_9
  have h_10 : KG z s_9 := KG_mu h_8
  clear_value s_9
  extract_lets +onlyGivenNames s_11
  have h_12 : KG z s_11 := KG_mu h_10
  clear_value s_11
  extract_lets +onlyGivenNames s_13
  have h_14 : KG z s_13 := KG_mu h_12
  clear_value s_13
  refine pk_b1 pk_top (fun _ _ => ?_)
  refine pk_ite ?_ ?_
  · exact (G_X12_saysIn_100 h_14)
  · exact (G_X12_saysIn_100 h_14)
theorem G_X12_saysNow {z : mG} {a1 : Int32} {a2 : Int32} {s : mG} (h : KG z s) : pk (F_X12_saysNow a1 a2 s) (fun τ => KG z τ.2) := by
  unfold F_X12_saysNow
  refine pk_nn ?_
  refine pk_b2 (G_X12_saysIn h) (fun _ s_1 (h_2 : KG z s_1) => ?_)
  exact pk_some h_2
theorem G_X12_sureOf_70 {z : mG} {x1 : Int32} {x2 : Int64} {x4 : Int32} {s : mG} (h : KG z s) : pk (F_X12_sureOf_70 x1 x2 x4 s) (se (fun τ => KG z τ.2.2.2) (fun τ => KG z τ.2)) := by
  unfold F_X12_sureOf_70
  exact pk_some h
theorem G_X12_sureOf_B16 {z : mG} {x1 : Int32} {x2 : Int64} {x4 : Int32} {s : mG} (h : KG z s) : pk (F_X12_sureOf_B16 x1 x2 x4 s) (se (fun τ => KG z τ.2.2.2) (fun τ => KG z τ.2)) := by
  unfold F_X12_sureOf_B16
  refine pk_ite ?_ ?_
  · exact pk_some h
  · refine pk_nn ?_
    refine pk_ite ?_ ?_
    · exact (G_X12_sureOf_70 h)
    · refine pk_nn ?_
      refine pk_b1 pk_top (fun _ _ => ?_)
      exact (G_X12_sureOf_70 h)
theorem G_X12_sureOf_L16 {z : mG} {x1 : Int32} {x2 : Int64} {x4 : Int32} {s : mG} (h : KG z s) : pk (F_X12_sureOf_L16 x1 x2 x4 s) (fun τ => KG z τ.2) := by
  unfold F_X12_sureOf_L16
  refine pk_whl (fun v => KG z v.2.2.2) h (fun v hv => ?_)
  obtain ⟨y0, y1, y2, y3⟩ := v
  exact G_X12_sureOf_B16 hv
theorem G_X12_sureOf {z : mG} {a1 : Int32} {s : mG} (h : KG z s) : pk (F_X12_sureOf a1 s) (fun τ => KG z τ.2) := by
  unfold F_X12_sureOf
  refine pk_b2 (G_X12_saysNow h) (fun _ s_1 (h_2 : KG z s_1) => ?_)
  extract_lets +onlyGivenNames v_3
  clear_value v_3
  exact (G_X12_sureOf_L16 h_2)
theorem G_X12_say_22 {z : mG} {s : mG} (h : KG z s) : pk (F_X12_say_22 s) (fun τ => KG z τ.2) := by
  unfold F_X12_say_22
  exact pk_some h
theorem G_X12_say {z : mG} {a1 : Int32} {a2 : Int32} {a3 : Int32} {s : mG} (h : KG z s) : pk (F_X12_say a1 a2 a3 s) (fun τ => KG z τ.2) := by
  unfold F_X12_say
  refine pk_b1 pk_top (fun _ _ => ?_)
  refine pk_ite ?_ ?_
  · exact (G_X12_say_22 h)
  · refine pk_b1 pk_top (fun _ _ => ?_)
    refine pk_ite ?_ ?_
    · exact (G_X12_say_22 h)
    · refine pk_b1 pk_top (fun _ _ => ?_)
      refine pk_ite ?_ ?_
      · exact (G_X12_say_22 h)
      · refine pk_b2 (G_X12_sureOf h) (fun _ s_1 (h_2 : KG z s_1) => ?_)
        refine pk_ite ?_ ?_
        · exact pk_some h_2
        · exact pk_some h_2
end
end
/-! 5zq1.empty -/
section
noncomputable section
/-! ALL GUESTS WEIGHED; an empty floor -/
theorem rel_sp {α β : Type} {u : α} {y : Option β} {Q : β → Prop} {R : α → β → Prop} (h : pk y Q) (k : ∀ v, Q v → R u v) : rel (some u) y R := fun _ e v e2 => Option.some.inj e ▸ k v (h v e2)
def sureN (w : Nat → Int32) (m g : Nat) : Int64 := sFold w (sStart w g) (glw w g) m
theorem sureN_r {b : mG} {m g : Nat} (hI : IM b) (hw : b.1 89 115 = cn m) (hm : m ≤ 6) : 0 ≤ (sureN (b.1 89) m g).toInt ∧ (sureN (b.1 89) m g).toInt ≤ 1000000 := by
  have st : ∀ k, k ≤ m → 0 ≤ (sFold (b.1 89) (sStart (b.1 89) g) (glw (b.1 89) g) k).toInt ∧ (sFold (b.1 89) (sStart (b.1 89) g) (glw (b.1 89) g) k).toInt ≤ 1000000 := by
    intro k
    induction k with
    | zero => intro _; exact Su_r sStart_u
    | succ k ih =>
      intro hk
      have i := ih (by omega)
      unfold sFold
      by_cases e : glw (b.1 89) g k = ci (-1)
      · rw [if_pos e]; exact i
      · rw [if_neg e]; exact byS_r hI hw hm (by omega) i
  exact st m (Nat.le_refl _)
theorem HK_low {w : Nat → Int32} {n nc : Nat} {a u : mG} (h : HK w n nc a) (e : ∀ j, 1 ≤ j → j ≤ 17 → u.1 j = a.1 j) : HK w n nc u := by
  obtain ⟨h1, h2, h3, h4, h5⟩ := h
  refine ⟨HSr1_row h1 (fun j q1 q2 => e j q1 q2) (fun _ _ => rfl), by rw [e 2 (by decide) (by decide)]; exact h2, h3, by rw [e 8 (by decide) (by decide)]; exact h4, h5⟩
theorem V_sureS {b s : mG} {n nc g m : Nat} (L : LTy nc (b.1 89)) (hn : n ≤ 12) (hg : g < n) (hw : b.1 89 115 = cn m) (hm : m ≤ 6) (e : s.1 89 = b.1 89) : pk (F_X12_sureOf (cn g) s) (fun τ => τ.1 = sureN (b.1 89) m g ∧ (∀ j, j ≠ 96 → j ≠ 97 → τ.2.1 j = s.1 j) ∧ τ.2.2 = s.2) := fun τ hτ => by
  have p := V_sureR (b := s) (n := n) (nc := nc) (g := g) (m := m) (by rw [e]; exact L) hn hg (by rw [e]; exact hw) hm τ hτ
  rw [e] at p
  exact ⟨p.1, p.2, G_X12_sureOf (z := s) (s := s) rfl τ hτ⟩
theorem V_weigh {a b : mG} {n nc m : Nat} (hI : IM b) (K : HK (b.1 89) n nc a) (h3 : a.1 10 3 = cn m) (hm : m ≤ 6) : pk (F_X0_weighAll a) (fun u => (∀ g, g < n → Su (u.1 76 g) (sureN (b.1 89) m g)) ∧ ∀ j, j ≠ 69 → j ≠ 70 → j ≠ 74 → j ≠ 76 → u.1 j = a.1 j) := by
  have hn := K.2.2.1
  unfold F_X0_weighAll F_X0_weighAll_L2
  refine pk_whl (fun v => ∃ k, k ≤ n ∧ v.1 = cn k ∧ (∀ g, g < k → Su (v.2.1 76 g) (sureN (b.1 89) m g)) ∧ ∀ j, j ≠ 69 → j ≠ 70 → j ≠ 74 → j ≠ 76 → v.2.1 j = a.1 j) ⟨0, Nat.zero_le _, rfl, fun g hg => absurd hg (by omega), fun _ _ _ _ _ => rfl⟩ (fun v hv => ?_)
  obtain ⟨x1, s⟩ := v
  obtain ⟨k, hk, q1o, q2o, ro⟩ := hv
  have q1 : x1 = cn k := q1o
  have q2 : ∀ g, g < k → Su (s.1 76 g) (sureN (b.1 89) m g) := q2o
  have r : ∀ j, j ≠ 69 → j ≠ 70 → j ≠ 74 → j ≠ 76 → s.1 j = a.1 j := ro
  have Ks : HK (b.1 89) n nc s := HK_low K (fun j h1 h2 => r j (by omega) (by omega) (by omega) (by omega))
  unfold F_X0_weighAll_B2
  dsimp only
  rw [q1, Ks.2.1]
  by_cases hkn : n ≤ k
  · rw [if_pos ((cn_le (by omega) (by omega)).mpr hkn)]
    exact pk_some (show (∀ g, g < n → Su (s.1 76 g) _) ∧ _ from ⟨fun g hg => q2 g (by omega), r⟩)
  rw [if_neg (fun q => hkn ((cn_le (by omega) (by omega)).mp q))]
  refine pk_b1 (V_glance Ks (by omega)) (fun u qu => ?_)
  obtain ⟨u1, u2⟩ := qu
  have Ku : HK (b.1 89) n nc u := HK_low Ks (fun j _ h2 => u2 j (by omega))
  have e10 : u.1 10 3 = cn m := by rw [u2 10 (by decide), r 10 (by decide) (by decide) (by decide) (by decide)]; exact h3
  refine pk_b2 (V_byGlance hI Ku (by omega : k < n) e10 hm u1) (fun v6 t qt => ?_)
  obtain ⟨t1o, t2o⟩ := qt
  have t1 : Su v6 (sureN (b.1 89) m k) := t1o
  have t2 : ∀ j, j ≠ 69 → j ≠ 70 → t.1 j = u.1 j := t2o
  rw [V_putJ sh76 (by omega) (by decide), b1_some]
  refine pk_some (show ∃ k', _ from ⟨k + 1, by omega, cnu (by omega), fun g hg => ?_, fun j h1 h2 h3 h4 => ?_⟩)
  · show Su (mu t.1 76 k v6 76 g) _
    by_cases e : g = k
    · subst e; rw [mu_same]; exact t1
    · rw [mu_cell (Or.inr e), t2 76 (by decide) (by decide), u2 76 (by decide)]
      exact q2 g (by omega)
  · show mu t.1 76 k v6 j = a.1 j
    exact (mu_row h4).trans ((t2 j h1 h2).trans ((u2 j h3).trans (r j h1 h2 h3 h4)))
theorem sh_i {Y Z : Int} (h1 : 0 ≤ Y) (h2 : Y ≤ 1000000) (k1 : 0 ≤ Z) (k2 : Z ≤ 1000000) : ∃ A : Int, Y * Z = A ∧ 0 ≤ A ∧ A ≤ 1000000000000 ∧ 0 ≤ A / 1000000 ∧ A / 1000000 ≤ Z := by
  have a0 : 0 ≤ Y * Z := Int.mul_nonneg h1 k1
  have a1 : Y * Z ≤ 1000000 * Z := Int.mul_le_mul_of_nonneg_right h2 k1
  generalize Y * Z = A at a0 a1
  exact ⟨A, rfl, a0, by omega, by omega, by omega⟩
theorem sh_r {y z : Int64} (h : 0 ≤ y.toInt ∧ y.toInt ≤ 1000000) (k : 0 ≤ z.toInt ∧ z.toInt ≤ 1000000) : 0 ≤ ((y * z) / cl 1000000).toInt ∧ ((y * z) / cl 1000000).toInt ≤ z.toInt := by
  obtain ⟨A, hA, a0, a1, d0, d1⟩ := sh_i h.1 h.2 k.1 k.2
  have c1 : -9223372036854775808 ≤ y.toInt * z.toInt := by rw [hA]; exact Int.le_trans (by decide) a0
  have c2 : y.toInt * z.toInt < 9223372036854775808 := by rw [hA]; exact Int.lt_of_le_of_lt a1 (by decide)
  have c : (y * z).toInt = A := (l_mul rfl rfl c1 c2).trans hA
  have d : ((y * z) / cl 1000000).toInt = A / 1000000 := l_div c (by decide : (cl 1000000).toInt = 1000000) a0 (by decide) (Int.lt_of_le_of_lt a1 (by decide))
  rw [d]
  exact ⟨d0, d1⟩
theorem sh_u {y z : Int64} (h : 0 ≤ y.toInt ∧ y.toInt ≤ 1000000) (k : 0 ≤ z.toInt ∧ z.toInt ≤ 1000000) : 0 ≤ ((y * z) / cl 1000000).toInt ∧ ((y * z) / cl 1000000).toInt ≤ 1000000 := ⟨(sh_r h k).1, Int.le_trans (sh_r h k).2 k.2⟩
theorem Su_share {s : mG} {x y : Int32} {u v : Int64} (h : Su x u) (k : Su y v) : pk (F_X11_share s x y) (fun z => Su z ((u * v) / cl 1000000)) := by
  unfold F_X11_share
  rw [← h.1, ← k.1]
  exact pk_some (Su_of (sh_u (Su_r h) (Su_r k)))
theorem Su_co {x : Int32} {u : Int64} (h : Su x u) : Su (ci 1000000 - x) (cl 1000000 - u) := by
  have e : (ci 1000000 - x).toInt = 1000000 - x.toInt := r_sub (by decide : (ci 1000000).toInt = 1000000) rfl (by have := h.2; omega) (by have := h.2; omega)
  have hh := h.2
  refine ⟨by rw [x64_sub h.2, ← h.1], ?_⟩
  rw [e]
  clear e
  exact ⟨by omega, by omega⟩
theorem co_r {u : Int64} (h : 0 ≤ u.toInt ∧ u.toInt ≤ 1000000) : 0 ≤ (cl 1000000 - u).toInt ∧ (cl 1000000 - u).toInt ≤ 1000000 := by
  have e : (cl 1000000 - u).toInt = 1000000 - u.toInt := l_sub (by decide : (cl 1000000).toInt = 1000000) rfl (by omega) (by omega)
  rw [e]
  clear e
  exact ⟨by omega, by omega⟩
/-- none is on the floor -/
def eFold (w : Nat → Int32) (m : Nat) (x : Int32) : Nat → Int64
  | 0 => cl 1000000
  | k + 1 => if w (119 + k) = x then (eFold w m x k * (cl 1000000 - sureN w m k)) / cl 1000000 else eFold w m x k
theorem eFold_0 {w : Nat → Int32} {m : Nat} {x : Int32} : Su (ci 1000000) (eFold w m x 0) := (show _ ∧ _ ∧ _ from ⟨(show cl 1000000 = (ci 1000000).toInt64 by decide), by decide, by decide⟩)
theorem eFold_s {w : Nat → Int32} {m k : Nat} {x : Int32} : eFold w m x (k + 1) = if w (119 + k) = x then (eFold w m x k * (cl 1000000 - sureN w m k)) / cl 1000000 else eFold w m x k := rfl
theorem V_emptyC {a b : mG} {n nc m : Nat} {x : Int32} (hI : IM b) (K : HK (b.1 89) n nc a) (h3 : a.1 10 3 = cn m) (hm : m ≤ 6) : pk (F_X0_emptyChance x a) (fun τ => Su τ.1 (eFold (b.1 89) m x n)) := by
  have hn := K.2.2.1
  unfold F_X0_emptyChance
  refine pk_b1 (V_weigh hI K h3 hm) (fun u qu => ?_)
  obtain ⟨u1, u2⟩ := qu
  have Ku : HK (b.1 89) n nc u := HK_low K (fun j h1 h2 => u2 j (by omega) (by omega) (by omega) (by omega))
  unfold F_X0_emptyChance_L9
  refine pk_whl (fun v => v.1 = x ∧ ∃ k, k ≤ n ∧ v.2.2.1 = cn k ∧ Su v.2.1 (eFold (b.1 89) m x k) ∧ v.2.2.2 = u) ⟨rfl, 0, Nat.zero_le _, rfl, eFold_0, rfl⟩ (fun v hv => ?_)
  obtain ⟨x1, x2, x3, s⟩ := v
  obtain ⟨q0o, k, hk, q1o, q2o, q3o⟩ := hv
  have q0 : x1 = x := q0o
  have q1 : x3 = cn k := q1o
  have q2 : Su x2 (eFold (b.1 89) m x k) := q2o
  have q3 : s = u := q3o
  unfold F_X0_emptyChance_B9 F_X0_emptyChance_55
  dsimp only
  rw [q0, q1, q3, Ku.2.1]
  by_cases hkn : n ≤ k
  · have ek : k = n := by omega
    rw [if_pos ((cn_le (by omega) (by omega)).mpr hkn)]
    rw [ek] at q2
    exact pk_some (show Su x2 _ from q2)
  rw [if_neg (fun q => hkn ((cn_le (by omega) (by omega)).mp q)), V_atG (c := 0) (k := ci 0) Ku.1.1 Ku.2.1 hn (by omega) (by decide) rfl, b1_some, show ixG k 0 = 119 + k from rfl]
  by_cases hx : b.1 89 (119 + k) = x
  · rw [if_pos hx, V_cellJ sh76 (by omega) (by decide), b1_some]
    refine pk_b1 (Su_share q2 (Su_co (u1 k (by omega)))) (fun z hz => ?_)
    exact pk_some (show _ ∧ ∃ k', _ from ⟨rfl, k + 1, by omega, cnu (by omega), by rw [eFold_s, if_pos hx]; exact hz, rfl⟩)
  · rw [if_neg hx]
    exact pk_some (show _ ∧ ∃ k', _ from ⟨rfl, k + 1, by omega, cnu (by omega), by rw [eFold_s, if_neg hx]; exact q2, rfl⟩)
theorem V_emptyR {b : mG} {n nc m : Nat} {x : Int32} (L : LTy nc (b.1 89)) (g2 : b.1 89 112 = cn n) (hn : n ≤ 12) (hw : b.1 89 115 = cn m) (hm : m ≤ 6) : pk (F_X12_empty_L18 x (cl 1000000) (ci 0) b) (fun τ => τ.1 = (eFold (b.1 89) m x n).toInt32) := by
  unfold F_X12_empty_L18
  refine pk_whl (fun v => v.1 = x ∧ ∃ k, k ≤ n ∧ v.2.2.1 = cn k ∧ v.2.1 = eFold (b.1 89) m x k ∧ ∀ j, j ≠ 96 → j ≠ 97 → v.2.2.2.1 j = b.1 j) ⟨rfl, 0, Nat.zero_le _, rfl, rfl, fun _ _ _ => rfl⟩ (fun v hv => ?_)
  obtain ⟨x1, x2, x4, s⟩ := v
  obtain ⟨q0o, k, hk, q1o, q2o, ro⟩ := hv
  have q0 : x1 = x := q0o
  have q1 : x4 = cn k := q1o
  have q2 : x2 = eFold (b.1 89) m x k := q2o
  have r : ∀ j, j ≠ 96 → j ≠ 97 → s.1 j = b.1 j := ro
  have e89 : s.1 89 = b.1 89 := r 89 (by decide) (by decide)
  unfold F_X12_empty_B18 F_X12_empty_64
  dsimp only
  rw [q0, q1, q2, e89, g2]
  by_cases hkn : n ≤ k
  · have ek : k = n := by omega
    rw [if_pos ((cn_le (by omega) (by omega)).mpr hkn)]
    exact pk_some (show (eFold (b.1 89) m x k).toInt32 = (eFold (b.1 89) m x n).toInt32 from by rw [ek])
  rw [if_neg (fun q => hkn ((cn_le (by omega) (by omega)).mp q)), show c8 119 + cn k = cn (119 + k) from cn_add (a := 119) (by omega), cn_nat (n := 119 + k) (by omega)]
  refine pk_nn ?_
  by_cases hx : b.1 89 (119 + k) = x
  · rw [if_pos hx]
    refine pk_b2 (V_sureS L hn (by omega : k < n) hw hm e89) (fun v9 s8 qt => ?_)
    obtain ⟨t1o, t2o, _⟩ := qt
    have t1 : v9 = sureN (b.1 89) m k := t1o
    have t2 : ∀ j, j ≠ 96 → j ≠ 97 → s8.1 j = s.1 j := t2o
    rw [t1]
    exact pk_some (show _ ∧ ∃ k', _ from ⟨rfl, k + 1, by omega, cnu (by omega), by rw [eFold_s, if_pos hx], fun j h1 h2 => (t2 j h1 h2).trans (r j h1 h2)⟩)
  · rw [if_neg hx]
    exact pk_some (show _ ∧ ∃ k', _ from ⟨rfl, k + 1, by omega, cnu (by omega), by rw [eFold_s, if_neg hx], r⟩)
theorem R_empty {a b : mG} {x : Int32} (hI : IM b) (h : SIM a b) : rel (F_X11_empty x a) (F_X12_empty x b) (fun τ υ => τ.1 = υ.1) := by
  obtain ⟨n, nc, m, K, g2, V, hm, h3, hw⟩ := SIM_S h
  unfold F_X11_empty F_X12_empty
  rw [V_within, F_isIn, b1_some, b1_some]
  refine rel_ifs Iff.rfl (fun _ => rel_some rfl) (fun hx => ?_)
  refine rel_l2 (V_emptyC hI K h3 hm) (fun v6 s5 qo => ?_)
  have q : Su v6 (eFold (b.1 89) m x n) := qo
  exact rel_sp (V_emptyR K.2.2.2.2 g2 K.2.2.1 hw hm) (fun v qv => show v6 = v.1 from by rw [qv]; exact (Su_32 q).symm)
end
end
/-! 5zq2.dist -/
section
noncomputable section
/-! HOW MANY ARE IN: the chances, on both sides -/
def dN (w : Nat → Int32) (m sk : Nat) : Nat → Nat → Int64
  | 0, i => if i = 0 then cl 1000000 else cz 0
  | k + 1, i => if k = sk then dN w m sk k i else (dN w m sk k i * (cl 1000000 - sureN w m k)) / cl 1000000 + (if i = 0 then cz 0 else (dN w m sk k (i - 1) * sureN w m k) / cl 1000000)
theorem dN_0 {w : Nat → Int32} {m sk i : Nat} : dN w m sk 0 i = if i = 0 then cl 1000000 else cz 0 := rfl
theorem dN_s {w : Nat → Int32} {m sk k i : Nat} (h : k ≠ sk) : dN w m sk (k + 1) i = (dN w m sk k i * (cl 1000000 - sureN w m k)) / cl 1000000 + (if i = 0 then cz 0 else (dN w m sk k (i - 1) * sureN w m k) / cl 1000000) := if_neg h
theorem dN_k {w : Nat → Int32} {m sk k i : Nat} (h : k = sk) : dN w m sk (k + 1) i = dN w m sk k i := if_pos h
theorem mil_r : 0 ≤ (cl 1000000).toInt ∧ (cl 1000000).toInt ≤ 1000000 := by decide
theorem cz_r : 0 ≤ (cz 0).toInt ∧ (cz 0).toInt ≤ 1000000 := by decide
theorem add_r {y z : Int64} {Z : Int} (h0 : 0 ≤ Z) (hz : Z ≤ 1000000) (h : 0 ≤ y.toInt ∧ y.toInt ≤ 1000000 - Z) (k : 0 ≤ z.toInt ∧ z.toInt ≤ Z) : 0 ≤ (y + z).toInt ∧ (y + z).toInt ≤ 1000000 := by
  have e : (y + z).toInt = y.toInt + z.toInt := l_add rfl rfl (by omega) (by omega)
  rw [e]
  clear e
  exact ⟨by omega, by omega⟩
/-- one step of the chances -/
theorem st_r {p q z : Int64} (hp : 0 ≤ p.toInt ∧ p.toInt ≤ 1000000) (hq : 0 ≤ q.toInt ∧ q.toInt ≤ 1000000) (hz : 0 ≤ z.toInt ∧ z.toInt ≤ 1000000) : 0 ≤ ((p * (cl 1000000 - z)) / cl 1000000 + (q * z) / cl 1000000).toInt ∧ ((p * (cl 1000000 - z)) / cl 1000000 + (q * z) / cl 1000000).toInt ≤ 1000000 := by
  have e : (cl 1000000 - z).toInt = 1000000 - z.toInt := l_sub (by decide : (cl 1000000).toInt = 1000000) rfl (by omega) (by omega)
  have r1 := sh_r hp (co_r hz)
  have r2 := sh_r hq hz
  rw [e] at r1
  exact add_r hz.1 hz.2 r1 r2
theorem st_0 {p z : Int64} (hp : 0 ≤ p.toInt ∧ p.toInt ≤ 1000000) (hz : 0 ≤ z.toInt ∧ z.toInt ≤ 1000000) : 0 ≤ ((p * (cl 1000000 - z)) / cl 1000000 + cz 0).toInt ∧ ((p * (cl 1000000 - z)) / cl 1000000 + cz 0).toInt ≤ 1000000 := by
  have e : (cl 1000000 - z).toInt = 1000000 - z.toInt := l_sub (by decide : (cl 1000000).toInt = 1000000) rfl (by omega) (by omega)
  have r1 := sh_r hp (co_r hz)
  rw [e] at r1
  exact add_r hz.1 hz.2 r1 ⟨by decide, by rw [show (cz 0).toInt = 0 by decide]; exact hz.1⟩
theorem dN_r {b : mG} {m sk : Nat} (hI : IM b) (hw : b.1 89 115 = cn m) (hm : m ≤ 6) : ∀ k i, 0 ≤ (dN (b.1 89) m sk k i).toInt ∧ (dN (b.1 89) m sk k i).toInt ≤ 1000000 := by
  intro k
  induction k with
  | zero =>
    intro i
    rw [dN_0]
    by_cases e : i = 0
    · rw [if_pos e]; exact mil_r
    · rw [if_neg e]; exact cz_r
  | succ k ih =>
    intro i
    by_cases e : k = sk
    · rw [dN_k e]; exact ih i
    · rw [dN_s e]
      by_cases e0 : i = 0
      · rw [if_pos e0]; exact st_0 (ih i) (sureN_r hI hw hm)
      · rw [if_neg e0]; exact st_r (ih i) (ih (i - 1)) (sureN_r hI hw hm)
theorem Su_add {x y : Int32} {u v : Int64} (h : Su x u) (k : Su y v) (r : 0 ≤ (u + v).toInt ∧ (u + v).toInt ≤ 1000000) : Su (x + y) (u + v) := by
  have h1 := h.2
  have k1 := k.2
  have c1 : -2147483648 ≤ x.toInt + y.toInt ∧ x.toInt + y.toInt < 2147483648 := ⟨by omega, by omega⟩
  have c2 : -9223372036854775808 ≤ x.toInt + y.toInt ∧ x.toInt + y.toInt < 9223372036854775808 := ⟨by omega, by omega⟩
  have e : (x + y).toInt = x.toInt + y.toInt := r_add rfl rfl c1.1 c1.2
  have f : (u + v).toInt = x.toInt + y.toInt := l_add (Su_t h) (Su_t k) c2.1 c2.2
  rw [f] at r
  refine (show _ ∧ _ ∧ _ from ⟨Int64.toInt_inj.mp (f.trans ((Int32.toInt_toInt64 _).trans e).symm), ?_, ?_⟩)
  · rw [e]; exact r.1
  · rw [e]; exact r.2
theorem cn_ne0 {k : Nat} (h : k < 2147483648) (h0 : k ≠ 0) : ¬ cn k = 0 := fun q => h0 ((cn_inj h (by decide)).mp (q.trans (by decide : (0 : Int32) = cn 0)))
theorem cn_ne1 {k : Nat} (h : k < 2147483648) : ¬ cn k = ci (-1) := fun q => by
  have e := congrArg Int32.toInt q
  rw [t_cn h, show (ci (-1)).toInt = -1 by decide] at e
  omega
theorem Su_z : Su (ci 0) (cz 0) := (show _ ∧ _ ∧ _ from ⟨by decide, by decide, by decide⟩)
theorem Su_m : Su (ci 1000000) (cl 1000000) := (show _ ∧ _ ∧ _ from ⟨by decide, by decide, by decide⟩)
theorem sh_z {z : Int64} (hz : 0 ≤ z.toInt ∧ z.toInt ≤ 1000000) : (cz 0 * z) / cl 1000000 = cz 0 := by
  have r := sh_r cz_r hz
  have c : (cz 0 * z).toInt = 0 := by
    have e : (cz 0).toInt * z.toInt = 0 := by rw [show (cz 0).toInt = 0 by decide, Int.zero_mul]
    rw [← e]
    exact l_mul rfl rfl (by rw [e]; decide) (by rw [e]; decide)
  refine Int64.toInt_inj.mp ?_
  rw [l_div c (by decide : (cl 1000000).toInt = 1000000) (by decide) (by decide) (by decide)]
  decide
/-- a cell below the row -/
theorem V_cell_neg {j : Nat} {s : mG} {x : Int32} (h : x < 0) : F_X11_cell j s x = some (ci 0) := by
  unfold F_X11_cell F_X11_cell_20
  rw [if_pos h]
/-- the class takes one guest in -/
theorem V_oneC {s : mG} {z : Int32} {b : mG} {m sk k : Nat} (hI : IM b) (hw : b.1 89 115 = cn m) (hm : m ≤ 6) (hs : k ≠ sk) (hz : Su z (sureN (b.1 89) m k)) (h : ∀ i, i < 13 → Su (s.1 75 i) (dN (b.1 89) m sk k i)) : pk (F_X0_countChance z s) (fun u => (∀ i, i < 13 → Su (u.1 75 i) (dN (b.1 89) m sk (k + 1) i)) ∧ ∀ j, j ≠ 75 → u.1 j = s.1 j) := by
  unfold F_X0_countChance F_X0_countChance_L8
  rw [show cn 13 - ci 1 = ci 13 + ci (-1) by decide]
  refine pk_whl (fun v => v.1 = z ∧ ∃ p, p ≤ 13 ∧ v.2.1 = cn p + ci (-1) ∧ (∀ i, i < 13 → Su (v.2.2.1 75 i) (dN (b.1 89) m sk (if p ≤ i then k + 1 else k) i)) ∧ ∀ j, j ≠ 75 → v.2.2.1 j = s.1 j) ⟨rfl, 13, by omega, rfl, fun i hi => by rw [if_neg (by omega)]; exact h i hi, fun _ _ => rfl⟩ (fun v hv => ?_)
  obtain ⟨x1, x2, t⟩ := v
  obtain ⟨q0o, p, hp, q1o, q2o, ro⟩ := hv
  have q0 : x1 = z := q0o
  have q1 : x2 = cn p + ci (-1) := q1o
  have q2 : ∀ i, i < 13 → Su (t.1 75 i) (dN (b.1 89) m sk (if p ≤ i then k + 1 else k) i) := q2o
  have r : ∀ j, j ≠ 75 → t.1 j = s.1 j := ro
  unfold F_X0_countChance_B8
  dsimp only
  rw [q0, q1]
  by_cases hp0 : p = 0
  · subst hp0
    rw [if_pos (show cn 0 + ci (-1) < 0 by decide)]
    exact pk_some (show (∀ i, i < 13 → Su (t.1 75 i) _) ∧ _ from ⟨fun i hi => by have := q2 i hi; rw [if_pos (Nat.zero_le i)] at this; exact this, r⟩)
  obtain ⟨d, rfl⟩ : ∃ d, p = d + 1 := ⟨p - 1, by omega⟩
  have e1 : cn (d + 1) + ci (-1) = cn d := by rw [← cnu (by omega), Int32.add_assoc]; exact (congrArg (cn d + ·) (by decide : ci 1 + ci (-1) = 0)).trans (Int32.add_zero _)
  have S1 := q2 d (by omega)
  rw [if_neg (by omega)] at S1
  rw [e1, if_neg (cn_nn (by omega)), V_cellJ (j := 75) (k := d) sh75 (by omega) (by decide)]
  have fin : ∀ v3 : Int32, Su v3 (if d = 0 then cz 0 else dN (b.1 89) m sk k (d - 1)) → pk (b1 (F_X11_share t v3 z) fun v5 => b1 (some (t.1 75 d)) fun v7 => b1 (F_X11_share t v7 (ci 1000000 - z)) fun v9 => b1 (F_X11_put 75 (cn d) (v9 + v5) t) fun s11 => some (Sum.inl (z, cn d + ci (-1), s11))) (se (fun v : Int32 × Int32 × mG => v.1 = z ∧ ∃ p, p ≤ 13 ∧ v.2.1 = cn p + ci (-1) ∧ (∀ i, i < 13 → Su (v.2.2.1 75 i) (dN (b.1 89) m sk (if p ≤ i then k + 1 else k) i)) ∧ ∀ j, j ≠ 75 → v.2.2.1 j = s.1 j) (fun u : mG => (∀ i, i < 13 → Su (u.1 75 i) (dN (b.1 89) m sk (k + 1) i)) ∧ ∀ j, j ≠ 75 → u.1 j = s.1 j)) := fun v3 h3 => by
    refine pk_b1 (Su_share h3 hz) (fun v5 h5 => ?_)
    rw [b1_some]
    refine pk_b1 (Su_share S1 (Su_co hz)) (fun v9 h9 => ?_)
    rw [V_putJ sh75 (by omega) (by decide), b1_some]
    have sm : Su (v9 + v5) (dN (b.1 89) m sk (k + 1) d) := by
      have rr := dN_r (sk := sk) hI hw hm (k + 1) d
      rw [dN_s hs] at rr ⊢
      by_cases e0 : d = 0
      · rw [if_pos e0] at rr h5 ⊢
        rw [sh_z (sureN_r hI hw hm)] at h5
        exact Su_add h9 h5 rr
      · rw [if_neg e0] at rr h5 ⊢
        exact Su_add h9 h5 rr
    refine pk_some (show _ ∧ ∃ p', _ from ⟨rfl, d, by omega, rfl, fun i hi => ?_, fun j hj => ?_⟩)
    · show Su (mu t.1 75 d (v9 + v5) 75 i) _
      by_cases e : i = d
      · rw [e, mu_same, if_pos (Nat.le_refl d)]; exact sm
      · rw [mu_cell (Or.inr e)]
        have := q2 i hi
        by_cases f : d + 1 ≤ i
        · rw [if_pos f] at this
          rw [if_pos (by omega)]; exact this
        · rw [if_neg f] at this
          rw [if_neg (by omega)]; exact this
    · show mu t.1 75 d (v9 + v5) j = s.1 j
      exact (mu_row hj).trans (r j hj)
  by_cases d0 : d = 0
  · rw [V_cell_neg (show cn d - ci 1 < 0 by rw [d0]; decide), b1_some]
    exact fin (ci 0) (by rw [if_pos d0]; exact Su_z)
  · rw [show cn d - ci 1 = cn (d - 1) from cn_sub (b := 1) (by omega) (by omega), V_cellJ (j := 75) (k := d - 1) sh75 (by omega) (by decide), b1_some]
    refine fin _ ?_
    rw [if_neg d0]
    have := q2 (d - 1) (by omega)
    rw [if_neg (by omega)] at this
    exact this
end
end
/-! 5zq3.count -/
section
noncomputable section
theorem V_guestsC {b u : mG} {n nc m sk : Nat} {e : Int32} (hI : IM b) (Ku : HK (b.1 89) n nc u) (hw : b.1 89 115 = cn m) (hm : m ≤ 6) (he : ∀ k, k < n → (cn k = e ↔ k = sk)) (u1 : ∀ g, g < n → Su (u.1 76 g) (sureN (b.1 89) m g)) {z : mG} (hz1 : ∀ i, i < 13 → Su (z.1 75 i) (dN (b.1 89) m sk 0 i)) (hz2 : ∀ j, j ≠ 75 → z.1 j = u.1 j) : pk (F_X0_countChances_L39 e (ci 0) z) (fun t => (∀ i, i < 13 → Su (t.1 75 i) (dN (b.1 89) m sk n i)) ∧ ∀ j, j ≠ 75 → t.1 j = u.1 j) := by
  have hn := Ku.2.2.1
  unfold F_X0_countChances_L39
  refine pk_whl (fun v => v.1 = e ∧ ∃ k, k ≤ n ∧ v.2.1 = cn k ∧ (∀ i, i < 13 → Su (v.2.2.1 75 i) (dN (b.1 89) m sk k i)) ∧ ∀ j, j ≠ 75 → v.2.2.1 j = u.1 j) ⟨rfl, 0, Nat.zero_le _, rfl, hz1, hz2⟩ (fun v hv => ?_)
  obtain ⟨x1, x2, s⟩ := v
  obtain ⟨q0o, k, hk, q1o, q2o, ro⟩ := hv
  have q0 : x1 = e := q0o
  have q1 : x2 = cn k := q1o
  have q2 : ∀ i, i < 13 → Su (s.1 75 i) (dN (b.1 89) m sk k i) := q2o
  have r : ∀ j, j ≠ 75 → s.1 j = u.1 j := ro
  unfold F_X0_countChances_B39 F_X0_countChances_70
  dsimp only
  rw [q0, q1, r 2 (by decide), Ku.2.1]
  by_cases hkn : n ≤ k
  · have ek : k = n := by omega
    rw [if_pos ((cn_le (by omega) (by omega)).mpr hkn)]
    rw [ek] at q2
    exact pk_some (show (∀ i, i < 13 → Su (s.1 75 i) _) ∧ _ from ⟨q2, r⟩)
  rw [if_neg (fun q => hkn ((cn_le (by omega) (by omega)).mp q))]
  by_cases hs : k = sk
  · rw [if_pos ((he k (by omega)).mpr hs)]
    exact pk_some (show _ ∧ ∃ k', _ from ⟨rfl, k + 1, by omega, cnu (by omega), fun i hi => by rw [dN_k hs]; exact q2 i hi, r⟩)
  · rw [if_neg (fun q => hs ((he k (by omega)).mp q)), V_cellJ (j := 76) (k := k) sh76 (by omega) (by decide), b1_some, r 76 (by decide)]
    refine pk_b1 (V_oneC hI hw hm hs (u1 k (by omega)) q2) (fun t qt => ?_)
    obtain ⟨t1, t2⟩ := qt
    exact pk_some (show _ ∧ ∃ k', _ from ⟨rfl, k + 1, by omega, cnu (by omega), t1, fun j hj => (t2 j hj).trans (r j hj)⟩)
theorem V_countC {a b : mG} {n nc m sk : Nat} {e : Int32} (hI : IM b) (K : HK (b.1 89) n nc a) (h3 : a.1 10 3 = cn m) (hw : b.1 89 115 = cn m) (hm : m ≤ 6) (he : ∀ k, k < n → (cn k = e ↔ k = sk)) : pk (F_X0_countChances e a) (fun u => (∀ i, i < 13 → Su (u.1 75 i) (dN (b.1 89) m sk n i)) ∧ (∀ g, g < n → Su (u.1 76 g) (sureN (b.1 89) m g)) ∧ ∀ j, j ≠ 69 → j ≠ 70 → j ≠ 74 → j ≠ 75 → j ≠ 76 → u.1 j = a.1 j) := by
  unfold F_X0_countChances
  refine pk_b1 (V_weigh hI K h3 hm) (fun u qu => ?_)
  obtain ⟨u1, u2⟩ := qu
  have Ku : HK (b.1 89) n nc u := HK_low K (fun j h1 h2 => u2 j (by omega) (by omega) (by omega) (by omega))
  unfold F_X0_countChances_L6
  refine pk_whl (fun v => v.1 = e ∧ ∃ k, k ≤ 13 ∧ v.2.1 = cn k ∧ (∀ i, i < k → Su (v.2.2.1 75 i) (dN (b.1 89) m sk 0 i)) ∧ ∀ j, j ≠ 75 → v.2.2.1 j = u.1 j) ⟨rfl, 0, Nat.zero_le _, rfl, fun i hi => absurd hi (by omega), fun _ _ => rfl⟩ (fun v hv => ?_)
  obtain ⟨x1, x2, s⟩ := v
  obtain ⟨q0o, k, hk, q1o, q2o, ro⟩ := hv
  have q0 : x1 = e := q0o
  have q1 : x2 = cn k := q1o
  have q2 : ∀ i, i < k → Su (s.1 75 i) (dN (b.1 89) m sk 0 i) := q2o
  have r : ∀ j, j ≠ 75 → s.1 j = u.1 j := ro
  unfold F_X0_countChances_B6 F_X0_countChances_30
  dsimp only
  rw [q0, q1]
  by_cases hk13 : 13 ≤ k
  · rw [if_pos ((cn_le (by omega) (by omega)).mpr hk13)]
    refine pk_b1r (fun t ht => ?_)
    have q := V_guestsC hI Ku hw hm he u1 (fun i hi => q2 i (by omega)) r t ht
    exact ⟨q.1, fun g hg => by rw [q.2 76 (by decide)]; exact u1 g hg, fun j h1 h2 h3 h4 h5 => (q.2 j h4).trans (u2 j h1 h2 h3 h5)⟩
  rw [if_neg (fun q => hk13 ((cn_le (by omega) (by omega)).mp q)), cn_nat (n := k) (by omega)]
  have fin : ∀ y : Int32, Su y (dN (b.1 89) m sk 0 k) → pk (if cn k < 0 ∨ 13 ≤ k then none else some (Sum.inl (e, cn k + ci 1, ((mu s.1 75 k y, s.2) : mG)))) (se (fun v : Int32 × Int32 × mG => v.1 = e ∧ ∃ k, k ≤ 13 ∧ v.2.1 = cn k ∧ (∀ i, i < k → Su (v.2.2.1 75 i) (dN (b.1 89) m sk 0 i)) ∧ ∀ j, j ≠ 75 → v.2.2.1 j = u.1 j) (fun u : mG => (∀ i, i < 13 → Su (u.1 75 i) (dN (b.1 89) m sk n i)) ∧ (∀ g, g < n → Su (u.1 76 g) (sureN (b.1 89) m g)) ∧ ∀ j, j ≠ 69 → j ≠ 70 → j ≠ 74 → j ≠ 75 → j ≠ 76 → u.1 j = a.1 j)) := fun y hy => by
    refine pk_nn (pk_some (show _ ∧ ∃ k', _ from ⟨rfl, k + 1, by omega, cnu (by omega), fun i hi => ?_, fun j hj => ?_⟩))
    · show Su (mu s.1 75 k y 75 i) _
      by_cases f : i = k
      · rw [f, mu_same]; exact hy
      · rw [mu_cell (Or.inr f)]
        exact q2 i (by omega)
    · show mu s.1 75 k y j = u.1 j
      exact (mu_row hj).trans (r j hj)
  by_cases k0 : k = 0
  · rw [if_pos (show cn k = 0 by rw [k0]; rfl)]
    exact fin (ci 1000000) (by rw [dN_0, if_pos k0]; exact Su_m)
  · rw [if_neg (show ¬ cn k = 0 from cn_ne0 (by omega) k0)]
    exact fin (ci 0) (by rw [dN_0, if_neg k0]; exact Su_z)
theorem muL_ap {D : Nat → Nat → Int64} {i k j l : Nat} {v : Int64} : muL D i k v j l = if j = i ∧ l = k then v else D j l := by
  unfold muL
  by_cases h : j = i
  · by_cases k' : l = k
    · rw [if_pos h, if_pos k', if_pos ⟨h, k'⟩]
    · rw [if_pos h, if_neg k', if_neg (fun q => k' q.2)]
  · rw [if_neg h, if_neg (fun q => h q.1)]
theorem muL_same {D : Nat → Nat → Int64} {i k : Nat} {v : Int64} : muL D i k v i k = v := by rw [muL_ap, if_pos ⟨rfl, rfl⟩]
theorem muL_cell {D : Nat → Nat → Int64} {i k j l : Nat} {v : Int64} (h : j ≠ i ∨ l ≠ k) : muL D i k v j l = D j l := by
  rw [muL_ap, if_neg (fun q => h.elim (fun e => e q.1) (fun e => e q.2))]
/-- the reference takes one guest in -/
theorem V_oneR {b s : mG} {n m k : Nat} (g2 : s.1 89 112 = cn n) (hn : n ≤ 12) (hk : k < 12) (h : ∀ i, i ≤ n → s.2 98 i = dN (b.1 89) m 12 k i) : pk (F_X12_laysChances_L64 (cn k) (sureN (b.1 89) m k) (s.1 89 112) s) (se (fun τ : Int32 × mG => τ.1 = cn (k + 1) ∧ (∀ i, i ≤ n → τ.2.2 98 i = dN (b.1 89) m 12 (k + 1) i) ∧ τ.2.1 = s.1) (fun _ : mG => False)) := by
  unfold F_X12_laysChances_L64
  rw [g2, show cn n = cn (n + 1) + ci (-1) by rw [← cnu (by omega), Int32.add_assoc]; exact ((congrArg (cn n + ·) (by decide : ci 1 + ci (-1) = 0)).trans (Int32.add_zero _)).symm]
  refine pk_whl (fun v => v.1 = cn k ∧ v.2.1 = sureN (b.1 89) m k ∧ ∃ p, p ≤ n + 1 ∧ v.2.2.1 = cn p + ci (-1) ∧ (∀ i, i ≤ n → v.2.2.2.2 98 i = dN (b.1 89) m 12 (if p ≤ i then k + 1 else k) i) ∧ v.2.2.2.1 = s.1) ⟨rfl, rfl, n + 1, by omega, rfl, fun i hi => by rw [if_neg (by omega)]; exact h i hi, rfl⟩ (fun v hv => ?_)
  obtain ⟨x1, x2, x4, t⟩ := v
  obtain ⟨q0o, q1o, p, hp, q2o, q3o, ro⟩ := hv
  have q0 : x1 = cn k := q0o
  have q1 : x2 = sureN (b.1 89) m k := q1o
  have q2 : x4 = cn p + ci (-1) := q2o
  have q3 : ∀ i, i ≤ n → t.2 98 i = dN (b.1 89) m 12 (if p ≤ i then k + 1 else k) i := q3o
  have r : t.1 = s.1 := ro
  unfold F_X12_laysChances_B64
  dsimp only
  rw [q0, q1, q2]
  by_cases hp0 : p = 0
  · subst hp0
    rw [if_pos (show cn 0 + ci (-1) < 0 by decide)]
    exact pk_some (show _ ∧ _ ∧ _ from ⟨cnu (by omega), fun i hi => by have := q3 i hi; rw [if_pos (Nat.zero_le i)] at this; exact this, r⟩)
  obtain ⟨d, rfl⟩ : ∃ d, p = d + 1 := ⟨p - 1, by omega⟩
  have e1 : cn (d + 1) + ci (-1) = cn d := by rw [← cnu (by omega), Int32.add_assoc]; exact (congrArg (cn d + ·) (by decide : ci 1 + ci (-1) = 0)).trans (Int32.add_zero _)
  have S1 := q3 d (by omega)
  rw [if_neg (by omega)] at S1
  rw [e1, if_neg (cn_nn (n := d) (by omega)), cn_nat (n := d) (by omega), S1]
  refine pk_nn ?_
  have fin : ∀ y : Int64, y = (if d = 0 then cz 0 else (dN (b.1 89) m 12 k (d - 1) * sureN (b.1 89) m k) / cl 1000000) → pk (F_X12_laysChances_116 (cn k) (sureN (b.1 89) m k) (cn d) (cn d) ((dN (b.1 89) m 12 k d * (cl 1000000 - sureN (b.1 89) m k)) / cl 1000000) y t) (se (fun v : Int32 × Int64 × Int32 × mG => v.1 = cn k ∧ v.2.1 = sureN (b.1 89) m k ∧ ∃ p, p ≤ n + 1 ∧ v.2.2.1 = cn p + ci (-1) ∧ (∀ i, i ≤ n → v.2.2.2.2 98 i = dN (b.1 89) m 12 (if p ≤ i then k + 1 else k) i) ∧ v.2.2.2.1 = s.1) (se (fun τ : Int32 × mG => τ.1 = cn (k + 1) ∧ (∀ i, i ≤ n → τ.2.2 98 i = dN (b.1 89) m 12 (k + 1) i) ∧ τ.2.1 = s.1) (fun _ : mG => False))) := fun y hy => by
    unfold F_X12_laysChances_116
    rw [cn_nat (n := d) (by omega)]
    refine pk_nn (pk_some (show _ ∧ _ ∧ ∃ p', _ from ⟨rfl, rfl, d, by omega, rfl, fun i hi => ?_, r⟩))
    show muL t.2 98 d _ 98 i = _
    by_cases f : i = d
    · rw [f, muL_same, if_pos (Nat.le_refl d), dN_s (show k ≠ 12 by omega), hy]
    · rw [muL_cell (Or.inr f)]
      have := q3 i hi
      by_cases g : d + 1 ≤ i
      · rw [if_pos g] at this
        rw [if_pos (by omega)]; exact this
      · rw [if_neg g] at this
        rw [if_neg (by omega)]; exact this
  by_cases d0 : d = 0
  · rw [if_pos (show cn d = 0 by rw [d0]; rfl)]
    exact fin _ (by rw [if_pos d0])
  · rw [if_neg (show ¬ cn d = 0 from cn_ne0 (by omega) d0), show cn d - ci 1 = cn (d - 1) from cn_sub (b := 1) (by omega) (by omega), cn_nat (n := d - 1) (by omega)]
    refine pk_nn (fin _ ?_)
    have S2 := q3 (d - 1) (by omega)
    rw [if_neg (by omega)] at S2
    rw [if_neg d0, S2]
theorem V_laysC {b : mG} {n nc m : Nat} (L : LTy nc (b.1 89)) (g2 : b.1 89 112 = cn n) (hn : n ≤ 12) (hw : b.1 89 115 = cn m) (hm : m ≤ 6) {a : mG} (ha : ∀ j, j ≠ 96 → j ≠ 97 → a.1 j = b.1 j) : pk (F_X12_laysChances a) (fun t => (∀ i, i ≤ n → t.2 98 i = dN (b.1 89) m 12 n i) ∧ ∀ j, j ≠ 96 → j ≠ 97 → t.1 j = b.1 j) := by
  unfold F_X12_laysChances F_X12_laysChances_L2
  refine pk_whl (fun v => ∃ k, k ≤ n + 1 ∧ v.1 = cn k ∧ (∀ i, i < k → v.2.2 98 i = dN (b.1 89) m 12 0 i) ∧ ∀ j, j ≠ 96 → j ≠ 97 → v.2.1 j = b.1 j) ⟨0, Nat.zero_le _, rfl, fun i hi => absurd hi (by omega), ha⟩ (fun v hv => ?_)
  obtain ⟨x1, s⟩ := v
  obtain ⟨k, hk, q1o, q2o, ro⟩ := hv
  have q1 : x1 = cn k := q1o
  have q2 : ∀ i, i < k → s.2 98 i = dN (b.1 89) m 12 0 i := q2o
  have r : ∀ j, j ≠ 96 → j ≠ 97 → s.1 j = b.1 j := ro
  unfold F_X12_laysChances_B2 F_X12_laysChances_29
  dsimp only
  rw [q1, r 89 (by decide) (by decide), g2]
  by_cases hkn : n < k
  · rw [if_pos ((cn_lt (by omega) (by omega)).mpr hkn)]
    refine pk_b1r ?_
    unfold F_X12_laysChances_L38
    refine pk_whl (fun v => ∃ k, k ≤ n ∧ v.1 = cn k ∧ (∀ i, i ≤ n → v.2.2 98 i = dN (b.1 89) m 12 k i) ∧ ∀ j, j ≠ 96 → j ≠ 97 → v.2.1 j = b.1 j) ⟨0, Nat.zero_le _, rfl, fun i hi => q2 i (by omega), r⟩ (fun v hv => ?_)
    obtain ⟨y1, t⟩ := v
    obtain ⟨p, hp, p1o, p2o, rto⟩ := hv
    have p1 : y1 = cn p := p1o
    have p2 : ∀ i, i ≤ n → t.2 98 i = dN (b.1 89) m 12 p i := p2o
    have rt : ∀ j, j ≠ 96 → j ≠ 97 → t.1 j = b.1 j := rto
    have e89 : t.1 89 = b.1 89 := rt 89 (by decide) (by decide)
    unfold F_X12_laysChances_B38
    dsimp only
    rw [p1, e89, g2]
    by_cases hpn : n ≤ p
    · have ep : p = n := by omega
      rw [if_pos ((cn_le (by omega) (by omega)).mpr hpn)]
      rw [ep] at p2
      exact pk_some (show (∀ i, i ≤ n → t.2 98 i = _) ∧ _ from ⟨p2, rt⟩)
    rw [if_neg (fun q => hpn ((cn_le (by omega) (by omega)).mp q))]
    refine pk_b2 (V_sureS L hn (by omega : p < n) hw hm e89) (fun v5 s4 qt => ?_)
    obtain ⟨t1o, t2o, t3o⟩ := qt
    have t1 : v5 = sureN (b.1 89) m p := t1o
    have t2 : ∀ j, j ≠ 96 → j ≠ 97 → s4.1 j = t.1 j := t2o
    have t3 : s4.2 = t.2 := t3o
    rw [t1]
    intro o ho
    have q := V_oneR (b := b) (s := s4) (n := n) (m := m) (k := p) (by rw [t2 89 (by decide) (by decide), e89]; exact g2) hn (by omega) (fun i hi => by rw [t3]; exact p2 i hi) o ho
    cases o with
    | inl v =>
      obtain ⟨z1, z2, z3⟩ := (show _ ∧ _ ∧ _ from q)
      exact (show ∃ k', _ from ⟨p + 1, by omega, z1, z2, fun j h1 h2 => by rw [z3]; exact (t2 j h1 h2).trans (rt j h1 h2)⟩)
    | inr v => exact (show False from q).elim
  rw [if_neg (fun q => hkn ((cn_lt (by omega) (by omega)).mp q)), cn_nat (n := k) (by omega)]
  have fin : ∀ y : Int64, y = dN (b.1 89) m 12 0 k → pk (if cn k < 0 ∨ 13 ≤ k then none else some (Sum.inl (cn k + ci 1, ((s.1, muL s.2 98 k y) : mG)))) (se (fun v : Int32 × mG => ∃ k, k ≤ n + 1 ∧ v.1 = cn k ∧ (∀ i, i < k → v.2.2 98 i = dN (b.1 89) m 12 0 i) ∧ ∀ j, j ≠ 96 → j ≠ 97 → v.2.1 j = b.1 j) (fun t : mG => (∀ i, i ≤ n → t.2 98 i = dN (b.1 89) m 12 n i) ∧ ∀ j, j ≠ 96 → j ≠ 97 → t.1 j = b.1 j)) := fun y hy => by
    refine pk_nn (pk_some (show ∃ k', _ from ⟨k + 1, by omega, cnu (by omega), fun i hi => ?_, r⟩))
    show muL s.2 98 k y 98 i = _
    by_cases f : i = k
    · rw [f, muL_same]; exact hy
    · rw [muL_cell (Or.inr f)]
      exact q2 i (by omega)
  by_cases k0 : k = 0
  · rw [if_pos (show cn k = 0 by rw [k0]; rfl)]
    exact fin (cl 1000000) (by rw [dN_0, if_pos k0])
  · rw [if_neg (show ¬ cn k = 0 from cn_ne0 (by omega) k0)]
    exact fin (cz 0) (by rw [dN_0, if_neg k0])
end
end
/-! 5zq4.many -/
section
noncomputable section
/-! HOW MANY -/
def Sb (M : Int) (x : Int32) (y : Int64) : Prop := y = x.toInt64 ∧ 0 ≤ x.toInt ∧ x.toInt ≤ M
theorem Sb_add {M N : Int} {x y : Int32} {u v : Int64} (h : Sb M x u) (k : Sb N y v) (r : M + N < 2147483648) : Sb (M + N) (x + y) (u + v) := by
  obtain ⟨h0, h1, h2⟩ := h
  obtain ⟨k0, k1, k2⟩ := k
  have c0 : 0 ≤ x.toInt + y.toInt ∧ x.toInt + y.toInt ≤ M + N := ⟨by omega, by omega⟩
  have c1 : -2147483648 ≤ x.toInt + y.toInt ∧ x.toInt + y.toInt < 2147483648 := ⟨by omega, by omega⟩
  have c2 : -9223372036854775808 ≤ x.toInt + y.toInt ∧ x.toInt + y.toInt < 9223372036854775808 := ⟨by omega, by omega⟩
  have e : (x + y).toInt = x.toInt + y.toInt := r_add rfl rfl c1.1 c1.2
  have f : (u + v).toInt = x.toInt + y.toInt := l_add (by rw [h0, Int32.toInt_toInt64]) (by rw [k0, Int32.toInt_toInt64]) c2.1 c2.2
  refine (show _ ∧ _ ∧ _ from ⟨Int64.toInt_inj.mp (f.trans ((Int32.toInt_toInt64 _).trans e).symm), ?_, ?_⟩)
  · rw [e]; exact c0.1
  · rw [e]; exact c0.2
theorem Sb_0 : Sb ((0 : Nat) * 1000000) (ci 0) (cz 0) := (show _ ∧ _ ∧ _ from ⟨by decide, by decide, by decide⟩)
theorem i_div {X : Int} (h : 0 ≤ X) (k : X < 2147483648) : -2147483648 ≤ X / 1000000 ∧ X / 1000000 < 2147483648 := ⟨by omega, by omega⟩
theorem q32 {z : Int64} {X : Int} (e : z.toInt = X) (h : -2147483648 ≤ X ∧ X < 2147483648) : z.toInt32.toInt = X := by
  rw [Int64.toInt_toInt32, e]
  exact Int.bmod_eq_of_le (by omega) (by omega)
theorem Sb_div {M : Int} {x : Int32} {u : Int64} (h : Sb M x u) (r : M < 2147483648) : x / ci 1000000 = (u / cl 1000000).toInt32 := by
  obtain ⟨h0, h1, h2⟩ := h
  have b := i_div h1 (by omega)
  have e : (x / ci 1000000).toInt = x.toInt / 1000000 := t_div rfl (by decide : (ci 1000000).toInt = 1000000) h1 (by decide)
  have f : (u / cl 1000000).toInt = x.toInt / 1000000 := l_div (by rw [h0, Int32.toInt_toInt64]) (by decide : (cl 1000000).toInt = 1000000) h1 (by decide) (Int.lt_of_le_of_lt h2 (Int.lt_trans r (by decide)))
  exact Int32.toInt_inj.mp (e.trans (q32 f b).symm)
def sN (w : Nat → Int32) (m : Nat) : Nat → Int64
  | 0 => cz 0
  | k + 1 => sN w m k + sureN w m k
theorem V_sumC {a b : mG} {n nc m : Nat} (hI : IM b) (K : HK (b.1 89) n nc a) (h3 : a.1 10 3 = cn m) (hm : m ≤ 6) : pk (F_X0_sumOfSure a) (fun τ => τ.1 = (sN (b.1 89) m n / cl 1000000).toInt32) := by
  have hn := K.2.2.1
  unfold F_X0_sumOfSure
  refine pk_b1 (V_weigh hI K h3 hm) (fun u qu => ?_)
  obtain ⟨u1, u2⟩ := qu
  have Ku : HK (b.1 89) n nc u := HK_low K (fun j h1 h2 => u2 j (by omega) (by omega) (by omega) (by omega))
  unfold F_X0_sumOfSure_L8
  refine pk_whl (fun v => ∃ k : Nat, k ≤ n ∧ v.2.1 = cn k ∧ Sb (k * 1000000) v.1 (sN (b.1 89) m k) ∧ v.2.2 = u) ⟨0, Nat.zero_le _, rfl, Sb_0, rfl⟩ (fun v hv => ?_)
  obtain ⟨x1, x2, s⟩ := v
  obtain ⟨k, hk, q1o, q2o, q3o⟩ := hv
  have q1 : x2 = cn k := q1o
  have q2 : Sb (k * 1000000) x1 (sN (b.1 89) m k) := q2o
  have q3 : s = u := q3o
  unfold F_X0_sumOfSure_B8
  dsimp only
  rw [q1, q3, Ku.2.1]
  by_cases hkn : n ≤ k
  · have ek : k = n := by omega
    rw [if_pos ((cn_le (by omega) (by omega)).mpr hkn)]
    rw [ek] at q2
    exact pk_some (show x1 / ci 1000000 = _ from Sb_div q2 (by omega))
  rw [if_neg (fun q => hkn ((cn_le (by omega) (by omega)).mp q)), V_cellJ sh76 (by omega) (by decide), b1_some]
  have q4 : Sb 1000000 (u.1 76 k) (sureN (b.1 89) m k) := u1 k (by omega)
  have q5 := Sb_add q2 q4 (by omega)
  rw [show (k : Int) * 1000000 + 1000000 = ((k + 1 : Nat) : Int) * 1000000 by omega] at q5
  exact pk_some (show ∃ k' : Nat, _ from ⟨k + 1, by omega, cnu (by omega), q5, rfl⟩)
/-- the likeliest -/
def lkN (f : Nat → Int64) : Nat → Nat
  | 0 => 0
  | i + 1 => if (f (i + 1)).toInt ≤ (f (lkN f i)).toInt then lkN f i else i + 1
theorem lkN_s {f : Nat → Int64} {i : Nat} : lkN f (i + 1) = if (f (i + 1)).toInt ≤ (f (lkN f i)).toInt then lkN f i else i + 1 := rfl
theorem lkN_b {f : Nat → Int64} : ∀ i, lkN f i ≤ i := by
  intro i
  induction i with
  | zero => exact Nat.le_refl _
  | succ i ih =>
    rw [lkN_s]
    by_cases h : (f (i + 1)).toInt ≤ (f (lkN f i)).toInt
    · rw [if_pos h]; omega
    · rw [if_neg h]; omega
theorem V_likeC {a b : mG} {n nc m : Nat} {x : Int32} (hI : IM b) (K : HK (b.1 89) n nc a) (h3 : a.1 10 3 = cn m) (hw : b.1 89 115 = cn m) (hm : m ≤ 6) : pk (F_X0_likeliest x a) (fun τ => (x = 0 → τ.1 = cn (lkN (dN (b.1 89) m 12 n) n)) ∧ (¬ x = 0 → Su τ.1 (dN (b.1 89) m 12 n (lkN (dN (b.1 89) m 12 n) n)))) := by
  have hn := K.2.2.1
  unfold F_X0_likeliest
  refine pk_b1 (V_countC (sk := 12) hI K h3 hw hm (fun k hk => ⟨fun e => absurd e (cn_ne1 (by omega)), fun e => by omega⟩)) (fun u qu => ?_)
  obtain ⟨u1, u0, u2⟩ := qu
  have Ku : HK (b.1 89) n nc u := HK_low K (fun j h1 h2 => u2 j (by omega) (by omega) (by omega) (by omega) (by omega))
  unfold F_X0_likeliest_L9
  refine pk_whl (fun v => v.1 = x ∧ ∃ k, k ≤ n ∧ v.2.1 = cn (lkN (dN (b.1 89) m 12 n) k) ∧ v.2.2.1 = cn (k + 1) ∧ v.2.2.2 = u) ⟨rfl, 0, Nat.zero_le _, rfl, rfl, rfl⟩ (fun v hv => ?_)
  obtain ⟨x1, x2, x3, s⟩ := v
  obtain ⟨q0o, k, hk, q1o, q2o, q3o⟩ := hv
  have q0 : x1 = x := q0o
  have q1 : x2 = cn (lkN (dN (b.1 89) m 12 n) k) := q1o
  have q2 : x3 = cn (k + 1) := q2o
  have q3 : s = u := q3o
  have bb := lkN_b (f := dN (b.1 89) m 12 n) k
  unfold F_X0_likeliest_B9 F_X0_likeliest_47
  dsimp only
  rw [q0, q1, q2, q3, Ku.2.1]
  by_cases hkn : n < k + 1
  · have ek : k = n := by omega
    rw [if_pos ((cn_lt (by omega) (by omega)).mpr hkn)]
    by_cases hx : x = 0
    · rw [if_pos hx]
      exact pk_some (show (_ → _) ∧ (_ → _) from ⟨fun _ => by rw [ek], fun q => absurd hx q⟩)
    · rw [if_neg hx, V_cellJ sh75 (by omega) (by decide), b1_some]
      have q := u1 (lkN (dN (b.1 89) m 12 n) k) (by omega)
      rw [ek] at q ⊢
      exact pk_some (show (_ → _) ∧ (_ → _) from ⟨fun q => absurd q hx, fun _ => q⟩)
  rw [if_neg (fun q => hkn ((cn_lt (by omega) (by omega)).mp q)), V_cellJ (j := 75) (k := k + 1) sh75 (by omega) (by decide), b1_some, V_cellJ (j := 75) (k := lkN (dN (b.1 89) m 12 n) k) sh75 (by omega) (by decide), b1_some]
  have s1 := u1 (k + 1) (by omega)
  have s2 := u1 (lkN (dN (b.1 89) m 12 n) k) (by omega)
  by_cases hl : (dN (b.1 89) m 12 n (k + 1)).toInt ≤ (dN (b.1 89) m 12 n (lkN (dN (b.1 89) m 12 n) k)).toInt
  · rw [if_pos (Int32.le_iff_toInt_le.mpr (by rw [← Su_t s1, ← Su_t s2]; exact hl))]
    exact pk_some (show _ ∧ ∃ k', _ from ⟨rfl, k + 1, by omega, by rw [lkN_s, if_pos hl], cnu (by omega), rfl⟩)
  · rw [if_neg (fun q => hl (by rw [Su_t s1, Su_t s2]; exact Int32.le_iff_toInt_le.mp q))]
    exact pk_some (show _ ∧ ∃ k', _ from ⟨rfl, k + 1, by omega, by rw [lkN_s, if_neg hl], cnu (by omega), rfl⟩)
theorem V_likeR {b t : mG} {n m : Nat} {x : Int32} (g2 : t.1 89 112 = cn n) (hn : n ≤ 12) (ht : ∀ i, i ≤ n → t.2 98 i = dN (b.1 89) m 12 n i) : pk (F_X12_many_L64 x (ci 0) (ci 1) t) (fun τ => (x = ci 1 → τ.1 = cn (lkN (dN (b.1 89) m 12 n) n)) ∧ (¬ x = ci 1 → τ.1 = (dN (b.1 89) m 12 n (lkN (dN (b.1 89) m 12 n) n)).toInt32)) := by
  unfold F_X12_many_L64
  refine pk_whl (fun v => v.1 = x ∧ ∃ k, k ≤ n ∧ v.2.1 = cn (lkN (dN (b.1 89) m 12 n) k) ∧ v.2.2.1 = cn (k + 1) ∧ v.2.2.2 = t) ⟨rfl, 0, Nat.zero_le _, rfl, rfl, rfl⟩ (fun v hv => ?_)
  obtain ⟨x1, x4, x5, s⟩ := v
  obtain ⟨q0o, k, hk, q1o, q2o, q3o⟩ := hv
  have q0 : x1 = x := q0o
  have q1 : x4 = cn (lkN (dN (b.1 89) m 12 n) k) := q1o
  have q2 : x5 = cn (k + 1) := q2o
  have q3 : s = t := q3o
  have bb := lkN_b (f := dN (b.1 89) m 12 n) k
  unfold F_X12_many_B64 F_X12_many_98
  dsimp only
  rw [q0, q1, q2, q3, g2, cn_nat (n := lkN (dN (b.1 89) m 12 n) k) (by omega), ht _ (show lkN (dN (b.1 89) m 12 n) k ≤ n by omega)]
  by_cases hkn : n < k + 1
  · have ek : k = n := by omega
    rw [if_pos ((cn_lt (by omega) (by omega)).mpr hkn)]
    by_cases hx : x = ci 1
    · rw [if_pos hx]
      exact pk_some (show (_ → _) ∧ (_ → _) from ⟨fun _ => by rw [ek], fun q => absurd hx q⟩)
    · rw [if_neg hx]
      refine pk_nn ?_
      rw [ek]
      exact pk_some (show (_ → _) ∧ (_ → _) from ⟨fun q => absurd q hx, fun _ => rfl⟩)
  rw [if_neg (fun q => hkn ((cn_lt (by omega) (by omega)).mp q)), cn_nat (n := k + 1) (by omega), ht (k + 1) (by omega)]
  refine pk_nn (pk_nn ?_)
  by_cases hl : (dN (b.1 89) m 12 n (k + 1)).toInt ≤ (dN (b.1 89) m 12 n (lkN (dN (b.1 89) m 12 n) k)).toInt
  · rw [if_pos ((lg_cmp_le _ _).mpr (Int64.le_iff_toInt_le.mpr hl))]
    exact pk_some (show _ ∧ ∃ k', _ from ⟨rfl, k + 1, by omega, by rw [lkN_s, if_pos hl], cnu (by omega), rfl⟩)
  · rw [if_neg (fun q => hl (Int64.le_iff_toInt_le.mp ((lg_cmp_le _ _).mp q)))]
    exact pk_some (show _ ∧ ∃ k', _ from ⟨rfl, k + 1, by omega, by rw [lkN_s, if_neg hl], cnu (by omega), rfl⟩)
/-- the reference, all of it -/
def MnQ (w : Nat → Int32) (m n : Nat) (x v : Int32) : Prop := (x = 0 → v = (sN w m n / cl 1000000).toInt32) ∧ (x = ci 1 → v = cn (lkN (dN w m 12 n) n)) ∧ (¬ x = 0 → ¬ x = ci 1 → v = (dN w m 12 n (lkN (dN w m 12 n) n)).toInt32)
theorem V_manyR {b : mG} {n nc m : Nat} {x : Int32} (L : LTy nc (b.1 89)) (g2 : b.1 89 112 = cn n) (hn : n ≤ 12) (hw : b.1 89 115 = cn m) (hm : m ≤ 6) : pk (F_X12_many_L16 x (cz 0) (ci 0) b) (fun τ => MnQ (b.1 89) m n x τ.1) := by
  unfold F_X12_many_L16
  refine pk_whl (fun v => v.1 = x ∧ ∃ k, k ≤ n ∧ v.2.1 = sN (b.1 89) m k ∧ v.2.2.1 = cn k ∧ ∀ j, j ≠ 96 → j ≠ 97 → v.2.2.2.1 j = b.1 j) ⟨rfl, 0, Nat.zero_le _, rfl, rfl, fun _ _ _ => rfl⟩ (fun v hv => ?_)
  obtain ⟨x1, x2, x4, s⟩ := v
  obtain ⟨q0o, k, hk, q1o, q2o, ro⟩ := hv
  have q0 : x1 = x := q0o
  have q1 : x2 = sN (b.1 89) m k := q1o
  have q2 : x4 = cn k := q2o
  have r : ∀ j, j ≠ 96 → j ≠ 97 → s.1 j = b.1 j := ro
  have e89 : s.1 89 = b.1 89 := r 89 (by decide) (by decide)
  unfold F_X12_many_B16
  dsimp only
  rw [q0, q1, q2, e89, g2]
  by_cases hkn : n ≤ k
  · have ek : k = n := by omega
    rw [if_pos ((cn_le (by omega) (by omega)).mpr hkn)]
    by_cases hx : x = 0
    · rw [if_pos hx]
      exact pk_some (show (_ → _) ∧ (_ → _) ∧ (_ → _ → _) from ⟨fun _ => by rw [ek], fun q => absurd (hx.symm.trans q) (by decide), fun q => absurd hx q⟩)
    · rw [if_neg hx]
      refine pk_b1 (V_laysC L g2 hn hw hm r) (fun t qt => ?_)
      obtain ⟨t1, t2⟩ := qt
      refine pk_b1r (fun o ho => ?_)
      have q := V_likeR (b := b) (t := t) (n := n) (m := m) (x := x) (by rw [t2 89 (by decide) (by decide)]; exact g2) hn t1 o ho
      exact (show (_ → _) ∧ (_ → _) ∧ (_ → _ → _) from ⟨fun z => absurd z hx, q.1, fun _ z => q.2 z⟩)
  rw [if_neg (fun q => hkn ((cn_le (by omega) (by omega)).mp q))]
  refine pk_b2 (V_sureS L hn (by omega : k < n) hw hm e89) (fun v9 s8 qt => ?_)
  obtain ⟨t1o, t2o, _⟩ := qt
  have t1 : v9 = sureN (b.1 89) m k := t1o
  have t2 : ∀ j, j ≠ 96 → j ≠ 97 → s8.1 j = s.1 j := t2o
  rw [t1]
  exact pk_some (show _ ∧ ∃ k', _ from ⟨rfl, k + 1, by omega, rfl, cnu (by omega), fun j h1 h2 => (t2 j h1 h2).trans (r j h1 h2)⟩)
theorem R_many {a b : mG} {x : Int32} (hI : IM b) (h : SIM a b) : rel (F_X11_many x a) (F_X12_many x b) (fun τ υ => τ.1 = υ.1) := by
  obtain ⟨n, nc, m, K, g2, V, hm, h3, hw⟩ := SIM_S h
  have hn := K.2.2.1
  unfold F_X11_many F_X12_many
  rw [F_isIn, b1_some]
  have R := V_manyR (x := x) K.2.2.2.2 g2 hn hw hm
  by_cases hx : wi x (ci 0) (ci 2) = 0
  · have ny : ∀ c : Nat, c ≤ 2 → ¬ x = cn c := fun c hc e => by
      rw [e] at hx
      have : ∀ c, c ≤ 2 → ¬ wi (cn c) (ci 0) (ci 2) = 0 := by decide
      exact this c hc hx
    rw [if_pos hx, if_neg (show ¬ x = ci 0 from ny 0 (by omega)), if_neg (show ¬ x = ci 1 from ny 1 (by omega)), if_neg (show ¬ x = ci 2 from ny 2 (by omega))]
    exact rel_some rfl
  · obtain ⟨c, hc, ey⟩ := wi_cn (l := 2) (by omega) hx
    rw [if_neg hx]
    rcases (show c = 0 ∨ c = 1 ∨ c = 2 by omega) with e | e | e <;> rw [e] at ey
    · rw [if_pos (show x = ci 0 from ey)]
      refine rel_l2 (V_sumC hI K h3 hm) (fun v s qo => ?_)
      have q : v = (sN (b.1 89) m n / cl 1000000).toInt32 := qo
      exact rel_sp R (fun v' qv => show v = v'.1 from q.trans (qv.1 (ey.trans (by decide))).symm)
    · rw [if_neg (show ¬ x = ci 0 by rw [ey]; decide), if_pos (show x = ci 1 from ey)]
      refine rel_l2 (V_likeC (x := ci 0) hI K h3 hw hm) (fun v s qo => ?_)
      have q : v = cn (lkN (dN (b.1 89) m 12 n) n) := qo.1 (by decide)
      exact rel_sp R (fun v' qv => show v = v'.1 from q.trans (qv.2.1 ey).symm)
    · rw [if_neg (show ¬ x = ci 0 by rw [ey]; decide), if_neg (show ¬ x = ci 1 by rw [ey]; decide), if_pos (show x = ci 2 from ey)]
      refine rel_l2 (V_likeC (x := ci 1) hI K h3 hw hm) (fun v s qo => ?_)
      have q : Su v (dN (b.1 89) m 12 n (lkN (dN (b.1 89) m 12 n) n)) := qo.2 (by decide)
      exact rel_sp R (fun v' qv => show v = v'.1 from (Su_32 q).symm.trans (qv.2.2 (by rw [ey]; decide) (by rw [ey]; decide)).symm)
end
end
/-! 5zq5.others -/
section
noncomputable section
/-! ONE AMONG HOW MANY -/
/-- the reference's row stands one place further -/
def oN (w : Nat → Int32) (m g k i : Nat) : Int64 := if i = 0 then cz 0 else dN w m g k (i - 1)
theorem oN_s {b : mG} {m g k i : Nat} (hI : IM b) (hw : b.1 89 115 = cn m) (hm : m ≤ 6) (hk : k ≠ g) : (oN (b.1 89) m g k (i + 1) * (cl 1000000 - sureN (b.1 89) m k)) / cl 1000000 + (oN (b.1 89) m g k i * sureN (b.1 89) m k) / cl 1000000 = oN (b.1 89) m g (k + 1) (i + 1) := by
  unfold oN
  rw [if_neg (by omega : ¬ i + 1 = 0), if_neg (by omega : ¬ i + 1 = 0), show i + 1 - 1 = i by omega, dN_s hk]
  by_cases e : i = 0
  · rw [if_pos e, if_pos e, sh_z (sureN_r hI hw hm)]
  · rw [if_neg e, if_neg e]
theorem V_oneO {b s : mG} {m g k : Nat} (hI : IM b) (hw : b.1 89 115 = cn m) (hm : m ≤ 6) (hk : k < 12) (hkg : k ≠ g) (h : ∀ i, i < 14 → s.2 99 i = oN (b.1 89) m g k i) : pk (F_X12_laysOthers_L63 (cn g) (cn k) (sureN (b.1 89) m k) (c8 13) s) (se (fun τ : Int32 × Int32 × mG => τ.1 = cn g ∧ τ.2.1 = cn (k + 1) ∧ (∀ i, i < 14 → τ.2.2.2 99 i = oN (b.1 89) m g (k + 1) i) ∧ τ.2.2.1 = s.1) (fun _ : mG => False)) := by
  unfold F_X12_laysOthers_L63
  refine pk_whl (fun v => v.1 = cn g ∧ v.2.1 = cn k ∧ v.2.2.1 = sureN (b.1 89) m k ∧ ∃ p, p ≤ 13 ∧ v.2.2.2.1 = cn p ∧ (∀ i, i < 14 → v.2.2.2.2.2 99 i = oN (b.1 89) m g (if p + 1 ≤ i then k + 1 else k) i) ∧ v.2.2.2.2.1 = s.1) ⟨rfl, rfl, rfl, 13, by omega, (show c8 13 = cn 13 by decide), fun i hi => by rw [if_neg (by omega)]; exact h i hi, rfl⟩ (fun v hv => ?_)
  obtain ⟨x1, x2, x3, x5, t⟩ := v
  obtain ⟨q0o, q1o, q2o, p, hp, q3o, q4o, ro⟩ := hv
  have q0 : x1 = cn g := q0o
  have q1 : x2 = cn k := q1o
  have q2 : x3 = sureN (b.1 89) m k := q2o
  have q3 : x5 = cn p := q3o
  have q4 : ∀ i, i < 14 → t.2 99 i = oN (b.1 89) m g (if p + 1 ≤ i then k + 1 else k) i := q4o
  have r : t.1 = s.1 := ro
  unfold F_X12_laysOthers_B63 F_X12_laysOthers_115
  dsimp only
  rw [q0, q1, q2, q3]
  by_cases hp0 : p = 0
  · subst hp0
    rw [if_pos (show cn 0 < ci 1 by decide)]
    refine pk_b1r (pk_some (show _ ∧ _ ∧ _ ∧ _ from ⟨rfl, cnu (by omega), fun i hi => ?_, r⟩))
    show t.2 99 i = _
    rw [q4 i hi]
    by_cases e : i = 0
    · rw [if_neg (by omega), e]; rfl
    · rw [if_pos (by omega)]
  obtain ⟨d, rfl⟩ : ∃ d, p = d + 1 := ⟨p - 1, by omega⟩
  have S1 := q4 (d + 1) (by omega)
  have S2 := q4 d (by omega)
  rw [if_neg (by omega)] at S1 S2
  rw [if_neg (show ¬ cn (d + 1) < ci 1 from fun q => by have := (cn_lt (b := 1) (by omega) (by omega)).mp q; omega), show cn (d + 1) - ci 1 = cn d from (cn_sub (b := 1) (by omega) (by omega)), cn_nat (n := d + 1) (by omega), cn_nat (n := d) (by omega), S1, S2, oN_s hI hw hm hkg]
  refine pk_nn (pk_nn (pk_nn (pk_some (show _ ∧ _ ∧ _ ∧ ∃ p', _ from ⟨rfl, rfl, rfl, d, by omega, ?_, fun i hi => ?_, r⟩))))
  · show cn (d + 1) + ci (-1) = cn d
    rw [← cnu (by omega), Int32.add_assoc]
    exact (congrArg (cn d + ·) (by decide : ci 1 + ci (-1) = 0)).trans (Int32.add_zero _)
  · show muL t.2 99 (d + 1) _ 99 i = _
    by_cases f : i = d + 1
    · rw [f, muL_same, if_pos (Nat.le_refl _)]
    · rw [muL_cell (Or.inr f)]
      have := q4 i hi
      by_cases e : d + 1 + 1 ≤ i
      · rw [if_pos e] at this
        rw [if_pos (by omega)]; exact this
      · rw [if_neg e] at this
        rw [if_neg (by omega)]; exact this
theorem V_laysO {b : mG} {n nc m g : Nat} (hI : IM b) (L : LTy nc (b.1 89)) (g2 : b.1 89 112 = cn n) (hn : n ≤ 12) (hw : b.1 89 115 = cn m) (hm : m ≤ 6) (hg : g < n) : pk (F_X12_laysOthers (cn g) b) (fun t => (∀ i, i < 14 → t.2 99 i = oN (b.1 89) m g n i) ∧ ∀ j, j ≠ 96 → j ≠ 97 → t.1 j = b.1 j) := by
  unfold F_X12_laysOthers F_X12_laysOthers_L2
  refine pk_whl (fun v => v.1 = cn g ∧ ∃ k, k ≤ 14 ∧ v.2.1 = cn k ∧ (∀ i, i < k → v.2.2.2 99 i = oN (b.1 89) m g 0 i) ∧ ∀ j, j ≠ 96 → j ≠ 97 → v.2.2.1 j = b.1 j) ⟨rfl, 0, Nat.zero_le _, rfl, fun i hi => absurd hi (by omega), fun _ _ _ => rfl⟩ (fun v hv => ?_)
  obtain ⟨x1, x2, s⟩ := v
  obtain ⟨q0o, k, hk, q1o, q2o, ro⟩ := hv
  have q0 : x1 = cn g := q0o
  have q1 : x2 = cn k := q1o
  have q2 : ∀ i, i < k → s.2 99 i = oN (b.1 89) m g 0 i := q2o
  have r : ∀ j, j ≠ 96 → j ≠ 97 → s.1 j = b.1 j := ro
  unfold F_X12_laysOthers_B2 F_X12_laysOthers_25
  dsimp only
  rw [q0, q1]
  by_cases hkn : 14 ≤ k
  · rw [if_pos (show c8 14 ≤ cn k from (cn_le (a := 14) (by omega) (by omega)).mpr hkn)]
    refine pk_b1r ?_
    unfold F_X12_laysOthers_L34
    refine pk_whl (fun v => v.1 = cn g ∧ ∃ k, k ≤ n ∧ v.2.1 = cn k ∧ (∀ i, i < 14 → v.2.2.2 99 i = oN (b.1 89) m g k i) ∧ ∀ j, j ≠ 96 → j ≠ 97 → v.2.2.1 j = b.1 j) ⟨rfl, 0, Nat.zero_le _, rfl, fun i hi => q2 i (by omega), r⟩ (fun v hv => ?_)
    obtain ⟨y1, y2, t⟩ := v
    obtain ⟨p0o, p, hp, p1o, p2o, rto⟩ := hv
    have p0 : y1 = cn g := p0o
    have p1 : y2 = cn p := p1o
    have p2 : ∀ i, i < 14 → t.2 99 i = oN (b.1 89) m g p i := p2o
    have rt : ∀ j, j ≠ 96 → j ≠ 97 → t.1 j = b.1 j := rto
    have e89 : t.1 89 = b.1 89 := rt 89 (by decide) (by decide)
    unfold F_X12_laysOthers_B34 F_X12_laysOthers_115
    dsimp only
    rw [p0, p1, e89, g2]
    by_cases hpn : n ≤ p
    · have ep : p = n := by omega
      rw [if_pos ((cn_le (by omega) (by omega)).mpr hpn)]
      rw [ep] at p2
      exact pk_some (show (∀ i, i < 14 → t.2 99 i = _) ∧ _ from ⟨p2, rt⟩)
    rw [if_neg (fun q => hpn ((cn_le (by omega) (by omega)).mp q))]
    by_cases hpg : p = g
    · rw [if_pos (show cn p = cn g by rw [hpg])]
      refine pk_some (show _ ∧ ∃ k', _ from ⟨rfl, p + 1, by omega, cnu (by omega), fun i hi => ?_, rt⟩)
      show t.2 99 i = _
      rw [p2 i hi]
      unfold oN
      by_cases e : i = 0
      · rw [if_pos e, if_pos e]
      · rw [if_neg e, if_neg e, dN_k hpg]
    rw [if_neg (fun q => hpg ((cn_inj (by omega) (by omega)).mp q))]
    refine pk_b2 (V_sureS L hn (by omega : p < n) hw hm e89) (fun v5 s4 qt => ?_)
    obtain ⟨t1o, t2o, t3o⟩ := qt
    have t1 : v5 = sureN (b.1 89) m p := t1o
    have t2 : ∀ j, j ≠ 96 → j ≠ 97 → s4.1 j = t.1 j := t2o
    have t3 : s4.2 = t.2 := t3o
    rw [t1]
    intro o ho
    have q := V_oneO (b := b) (s := s4) (m := m) (g := g) (k := p) hI hw hm (by omega) hpg (fun i hi => by rw [t3]; exact p2 i hi) o ho
    cases o with
    | inl v =>
      obtain ⟨z0, z1, z2, z3⟩ := (show _ ∧ _ ∧ _ ∧ _ from q)
      exact (show _ ∧ ∃ k', _ from ⟨z0, p + 1, by omega, z1, z2, fun j h1 h2 => by rw [z3]; exact (t2 j h1 h2).trans (rt j h1 h2)⟩)
    | inr v => exact (show False from q).elim
  rw [if_neg (show ¬ c8 14 ≤ cn k from fun q => hkn ((cn_le (a := 14) (by omega) (by omega)).mp q)), cn_nat (n := k) (by omega)]
  have fin : ∀ y : Int64, y = oN (b.1 89) m g 0 k → pk (if cn k < 0 ∨ 14 ≤ k then none else some (Sum.inl (cn g, cn k + ci 1, ((s.1, muL s.2 99 k y) : mG)))) (se (fun v : Int32 × Int32 × mG => v.1 = cn g ∧ ∃ k, k ≤ 14 ∧ v.2.1 = cn k ∧ (∀ i, i < k → v.2.2.2 99 i = oN (b.1 89) m g 0 i) ∧ ∀ j, j ≠ 96 → j ≠ 97 → v.2.2.1 j = b.1 j) (fun t : mG => (∀ i, i < 14 → t.2 99 i = oN (b.1 89) m g n i) ∧ ∀ j, j ≠ 96 → j ≠ 97 → t.1 j = b.1 j)) := fun y hy => by
    refine pk_nn (pk_some (show _ ∧ ∃ k', _ from ⟨rfl, k + 1, by omega, cnu (by omega), fun i hi => ?_, r⟩))
    show muL s.2 99 k y 99 i = _
    by_cases f : i = k
    · rw [f, muL_same]; exact hy
    · rw [muL_cell (Or.inr f)]
      exact q2 i (by omega)
  by_cases k0 : k = 1
  · rw [if_pos (show cn k = ci 1 by rw [k0]; rfl)]
    exact fin (cl 1000000) (by unfold oN; rw [k0, if_neg (by decide), dN_0, if_pos (by decide)])
  · rw [if_neg (show ¬ cn k = ci 1 from fun q => k0 ((cn_inj (b := 1) (by omega) (by omega)).mp q))]
    refine fin (cz 0) ?_
    unfold oN
    by_cases e : k = 0
    · rw [if_pos e]
    · rw [if_neg e, dN_0, if_neg (by omega)]
theorem R_counted {a b : mG} {x y : Int32} (hI : IM b) (h : SIM a b) : rel (F_X11_counted x y a) (F_X12_counted x y b) (fun τ υ => τ.1 = υ.1) := by
  obtain ⟨n, nc, m, K, g2, V, hm, h3, hw⟩ := SIM_S h
  have hn := K.2.2.1
  unfold F_X11_counted F_X12_counted F_X11_counted_21 F_X12_counted_18
  rw [V_isGuest, V_isGuestR g2 hn, b1_some, b1_some, show a.1 (1 + 1) 3 = cn n from K.2.1]
  refine rel_ifs Iff.rfl (fun _ => rel_some rfl) (fun hx => ?_)
  obtain ⟨g, hg, ex⟩ := ig_cn (by omega) hx
  rw [V_within, F_isIn, b1_some, b1_some]
  refine rel_ifs Iff.rfl (fun _ => rel_some rfl) (fun hy => ?_)
  obtain ⟨c, hc, ey⟩ := wi_cn (l := 12) (by omega) hy
  rw [ex, ey]
  refine rel_l2 (x := F_X0_amongCounted (cn g) (cn c) a) (P := fun τ => τ.1 = (if (lg_cmp (sureN (b.1 89) m g * oN (b.1 89) m g n c + (cl 1000000 - sureN (b.1 89) m g) * oN (b.1 89) m g n (c + 1)) (cz 0)) = 0 then ci (-1) else ((cl 1000000 * (sureN (b.1 89) m g * oN (b.1 89) m g n c)) / (sureN (b.1 89) m g * oN (b.1 89) m g n c + (cl 1000000 - sureN (b.1 89) m g) * oN (b.1 89) m g n (c + 1))).toInt32)) ?_ (fun v s q => ?_)
  · unfold F_X0_amongCounted
    refine pk_b1 (V_countC (sk := g) hI K h3 hw hm (fun k hk => cn_inj (by omega) (by omega))) (fun u qu => ?_)
    obtain ⟨u1, u0, u2⟩ := qu
    rw [V_cellJ (j := 76) (k := g) sh76 (by omega) (by decide), b1_some]
    have s0 := (u0 g hg).1
    have s1 : (u.1 75 c).toInt64 = oN (b.1 89) m g n (c + 1) := by
      unfold oN
      rw [if_neg (by omega), show c + 1 - 1 = c by omega]
      exact (u1 c (by omega)).1.symm
    have fin : ∀ v6 : Int32, v6.toInt64 = oN (b.1 89) m g n c → pk (b1 (F_X11_cell 75 u (cn c)) fun v9 => if (lg_cmp ((u.1 76 g).toInt64 * v6.toInt64 + ((cl 1000000) - (u.1 76 g).toInt64) * v9.toInt64) (cz 0)) = 0 then some ((ci (-1)), u) else if ((u.1 76 g).toInt64 * v6.toInt64 + ((cl 1000000) - (u.1 76 g).toInt64) * v9.toInt64) = 0 then none else some ((((cl 1000000) * ((u.1 76 g).toInt64 * v6.toInt64)) / ((u.1 76 g).toInt64 * v6.toInt64 + ((cl 1000000) - (u.1 76 g).toInt64) * v9.toInt64)).toInt32, u)) (fun τ : Int32 × mG => τ.1 = (if (lg_cmp (sureN (b.1 89) m g * oN (b.1 89) m g n c + (cl 1000000 - sureN (b.1 89) m g) * oN (b.1 89) m g n (c + 1)) (cz 0)) = 0 then ci (-1) else ((cl 1000000 * (sureN (b.1 89) m g * oN (b.1 89) m g n c)) / (sureN (b.1 89) m g * oN (b.1 89) m g n c + (cl 1000000 - sureN (b.1 89) m g) * oN (b.1 89) m g n (c + 1))).toInt32)) := fun v6 h6 => by
      rw [V_cellJ (j := 75) (k := c) sh75 (by omega) (by decide), b1_some, h6, s1, ← s0]
      by_cases z : (lg_cmp (sureN (b.1 89) m g * oN (b.1 89) m g n c + (cl 1000000 - sureN (b.1 89) m g) * oN (b.1 89) m g n (c + 1)) (cz 0)) = 0
      · rw [if_pos z, if_pos z]
        exact pk_some rfl
      · rw [if_neg z, if_neg z]
        exact pk_nn (pk_some rfl)
    by_cases c0 : c = 0
    · rw [V_cell_neg (show cn c - ci 1 < 0 by rw [c0]; decide), b1_some]
      exact fin (ci 0) (by unfold oN; rw [if_pos c0]; decide)
    · rw [show cn c - ci 1 = cn (c - 1) from cn_sub (b := 1) (by omega) (by omega), V_cellJ (j := 75) (k := c - 1) sh75 (by omega) (by decide), b1_some]
      exact fin _ (by unfold oN; rw [if_neg c0]; exact (u1 (c - 1) (by omega)).1.symm)
  · refine rel_r1 (V_laysO hI K.2.2.2.2 g2 hn hw hm hg) (fun t qt => ?_)
    obtain ⟨t1, t2⟩ := qt
    refine rel_r2 (V_sureS K.2.2.2.2 hn hg hw hm (t2 89 (by decide) (by decide))) (fun v11 s10 qs => ?_)
    obtain ⟨z1o, _, z3o⟩ := qs
    have z1 : v11 = sureN (b.1 89) m g := z1o
    have z3 : s10.2 = t.2 := z3o
    rw [show cn c + ci 1 = cn (c + 1) from cnu (by omega), cn_nat (n := c) (by omega), cn_nat (n := c + 1) (by omega), z3, t1 c (by omega), t1 (c + 1) (by omega), z1]
    have q : v = _ := q
    refine rel_rg ?_
    dsimp only
    refine rel_rg ?_
    by_cases z : (lg_cmp (sureN (b.1 89) m g * oN (b.1 89) m g n c + (cl 1000000 - sureN (b.1 89) m g) * oN (b.1 89) m g n (c + 1)) (cz 0)) = 0
    · rw [if_pos z] at q
      rw [if_pos z]
      exact rel_some q
    · rw [if_neg z] at q
      rw [if_neg z]
      exact rel_rg (rel_some q)
end
end
/-! 5zq6.span -/
section
noncomputable section
/-! THE SHORTEST SPAN -/
def sD (f : Nat → Int64) (s : Nat) : Nat → Int
  | 0 => 0
  | l + 1 => sD f s l + (f (s + l)).toInt
theorem sD_s {f : Nat → Int64} {s l : Nat} : sD f s (l + 1) = sD f s l + (f (s + l)).toInt := rfl
theorem sD_b {f : Nat → Int64} (hf : ∀ i, 0 ≤ (f i).toInt ∧ (f i).toInt ≤ 1000000) (s : Nat) : ∀ l : Nat, 0 ≤ sD f s l ∧ sD f s l ≤ l * 1000000 := by
  intro l
  induction l with
  | zero => exact ⟨Int.le_refl _, Int.le_refl _⟩
  | succ l ih =>
    rw [sD_s]
    have h := hf (s + l)
    generalize (f (s + l)).toInt = F at h
    generalize sD f s l = S at ih
    exact ⟨by omega, by omega⟩
theorem V_chWithin {u : mG} {f : Nat → Int64} (hf : ∀ i, 0 ≤ (f i).toInt ∧ (f i).toInt ≤ 1000000) (hu : ∀ i, i < 13 → Su (u.1 75 i) (f i)) {s l : Nat} (hs : s + l ≤ 12) : pk (F_X0_chanceWithin u (cn s) (cn (s + l))) (fun v => v.toInt = sD f s (l + 1)) := by
  unfold F_X0_chanceWithin F_X0_chanceWithin_L5
  refine pk_whl (fun v => v.1 = cn (s + l) ∧ ∃ k, k ≤ l + 1 ∧ v.2.1.toInt = sD f s k ∧ v.2.2 = cn (s + k)) ⟨rfl, 0, Nat.zero_le _, (show (ci 0).toInt = 0 by decide), rfl⟩ (fun v hv => ?_)
  obtain ⟨x2, x3, x4⟩ := v
  obtain ⟨q0o, k, hk, q1o, q2o⟩ := hv
  have q0 : x2 = cn (s + l) := q0o
  have q1 : x3.toInt = sD f s k := q1o
  have q2 : x4 = cn (s + k) := q2o
  unfold F_X0_chanceWithin_B5
  dsimp only
  rw [q0, q2]
  by_cases hkl : l < k
  · have ek : k = l + 1 := by omega
    rw [if_pos ((cn_lt (by omega) (by omega)).mpr (by omega))]
    rw [ek] at q1
    exact pk_some (show x3.toInt = _ from q1)
  rw [if_neg (fun q => hkl (by have := (cn_lt (by omega) (by omega)).mp q; omega)), V_cellJ (j := 75) (k := s + k) sh75 (by omega) (by decide), b1_some]
  have b1' := (sD_b hf s k)
  have b2' := hf (s + k)
  have e2 := Su_t (hu (s + k) (by omega))
  have c : -2147483648 ≤ sD f s k + (f (s + k)).toInt ∧ sD f s k + (f (s + k)).toInt < 2147483648 := by
    generalize (f (s + k)).toInt = F at b2'
    generalize sD f s k = S at b1'
    exact ⟨by omega, by omega⟩
  exact pk_some (show _ ∧ ∃ k', _ from ⟨rfl, k + 1, by omega, r_add q1 e2.symm c.1 c.2, cnu (by omega)⟩)
/-- the best span: the shortest, then the lowest -/
def Sp (n : Nat) (f : Nat → Int64) (T : Int) (y r : Int32) : Prop := (∃ s l, s + l ≤ n ∧ T ≤ sD f s (l + 1) ∧ (∀ s' l', s' + l' ≤ n → T ≤ sD f s' (l' + 1) → l < l' ∨ (l = l' ∧ s ≤ s')) ∧ r = if y = 0 then cn s else cn (s + l)) ∨ ((∀ s' l', s' + l' ≤ n → ¬ T ≤ sD f s' (l' + 1)) ∧ r = ci (-1))
theorem Sp_u {n : Nat} {f : Nat → Int64} {T : Int} {y r r' : Int32} (h : Sp n f T y r) (k : Sp n f T y r') : r = r' := by
  rcases h with ⟨s, l, h1, h2, h3, h4⟩ | ⟨h1, h2⟩
  · rcases k with ⟨s', l', k1, k2, k3, k4⟩ | ⟨k1, k2⟩
    · have a1 := h3 s' l' k1 k2
      have a2 := k3 s l h1 h2
      have es : s = s' := by omega
      have el : l = l' := by omega
      rw [h4, k4, es, el]
    · exact absurd h2 (k1 s l h1)
  · rcases k with ⟨s', l', k1, k2, k3, k4⟩ | ⟨k1, k2⟩
    · exact absurd k2 (h1 s' l' k1)
    · rw [h2, k2]
theorem V_edgeC {a b : mG} {n nc m : Nat} {x y : Int32} (hI : IM b) (K : HK (b.1 89) n nc a) (h3 : a.1 10 3 = cn m) (hw : b.1 89 115 = cn m) (hm : m ≤ 6) (hx : 0 ≤ x.toInt ∧ x.toInt ≤ 1000) : pk (F_X0_spanEdge x y a) (fun τ => Sp n (dN (b.1 89) m 12 n) (1000 * x.toInt) y τ.1) := by
  have hn := K.2.2.1
  have hf : ∀ i, 0 ≤ (dN (b.1 89) m 12 n i).toInt ∧ (dN (b.1 89) m 12 n i).toInt ≤ 1000000 := dN_r hI hw hm n
  unfold F_X0_spanEdge
  refine pk_b1 (V_countC (sk := 12) hI K h3 hw hm (fun k hk => ⟨fun e => absurd e (cn_ne1 (by omega)), fun e => by omega⟩)) (fun u qu => ?_)
  obtain ⟨u1, u0, u2⟩ := qu
  have Ku : HK (b.1 89) n nc u := HK_low K (fun j h1 h2 => u2 j (by omega) (by omega) (by omega) (by omega) (by omega))
  generalize dN (b.1 89) m 12 n = f at hf u1 ⊢
  have eT : (x * c16 1000).toInt = 1000 * x.toInt := by
    rw [r_mul (rfl : x.toInt = _) (by decide : (c16 1000).toInt = 1000) (by omega) (by omega)]
    omega
  rw [Ku.2.1]
  unfold F_X0_spanEdge_L19
  refine pk_whl (fun v => v.1 = x ∧ v.2.1 = y ∧ v.2.2.1 = cn n ∧ ∃ k, k ≤ n + 1 ∧ v.2.2.2.1 = cn k ∧ (∀ s' l', s' + l' ≤ n → l' < k → ¬ 1000 * x.toInt ≤ sD f s' (l' + 1)) ∧ v.2.2.2.2 = u) ⟨rfl, rfl, rfl, 0, Nat.zero_le _, rfl, fun _ l' _ h => absurd h (by omega), rfl⟩ (fun v hv => ?_)
  obtain ⟨x1, x2, x3, x4, s⟩ := v
  obtain ⟨q0o, q1o, q2o, k, hk, q3o, q4o, q5o⟩ := hv
  have q0 : x1 = x := q0o
  have q1 : x2 = y := q1o
  have q2 : x3 = cn n := q2o
  have q3 : x4 = cn k := q3o
  have q4 : ∀ s' l', s' + l' ≤ n → l' < k → ¬ 1000 * x.toInt ≤ sD f s' (l' + 1) := q4o
  have q5 : s = u := q5o
  unfold F_X0_spanEdge_B19
  dsimp only
  rw [q0, q1, q2, q3, q5]
  by_cases hkn : n < k
  · rw [if_pos ((cn_lt (by omega) (by omega)).mpr hkn)]
    exact pk_some (show Sp n f (1000 * x.toInt) y (ci (-1)) from Or.inr ⟨fun s' l' h => q4 s' l' h (by omega), rfl⟩)
  rw [if_neg (fun q => hkn ((cn_lt (by omega) (by omega)).mp q))]
  unfold F_X0_spanEdge_L28
  refine pk_whl (fun v => v.1 = x ∧ v.2.1 = y ∧ v.2.2.1 = cn n ∧ v.2.2.2.1 = cn k ∧ ∃ p, p + k ≤ n + 1 ∧ v.2.2.2.2.1 = cn p ∧ (∀ s', s' < p → ¬ 1000 * x.toInt ≤ sD f s' (k + 1)) ∧ v.2.2.2.2.2 = u) ⟨rfl, rfl, rfl, rfl, 0, by omega, rfl, fun s' h => absurd h (by omega), rfl⟩ (fun v hv => ?_)
  obtain ⟨y1, y2, y3, y4, y5, t⟩ := v
  obtain ⟨p0o, p1o, p2o, p3o, p, hp, p4o, p5o, p6o⟩ := hv
  have p0 : y1 = x := p0o
  have p1 : y2 = y := p1o
  have p2 : y3 = cn n := p2o
  have p3 : y4 = cn k := p3o
  have p4 : y5 = cn p := p4o
  have p5 : ∀ s', s' < p → ¬ 1000 * x.toInt ≤ sD f s' (k + 1) := p5o
  have p6 : t = u := p6o
  unfold F_X0_spanEdge_B28
  dsimp only
  rw [p0, p1, p2, p3, p4, p6, cn_add (a := p) (b := k) (by omega)]
  by_cases hpn : n < p + k
  · rw [if_pos ((cn_lt (by omega) (by omega)).mpr hpn)]
    refine pk_some (show _ ∧ _ ∧ _ ∧ ∃ k', _ from ⟨rfl, rfl, rfl, k + 1, by omega, cnu (by omega), fun s' l' h1 h2 => ?_, rfl⟩)
    by_cases e : l' = k
    · rw [e]; exact p5 s' (by omega)
    · exact q4 s' l' h1 (by omega)
  rw [if_neg (fun q => hpn ((cn_lt (by omega) (by omega)).mp q))]
  refine pk_b1 (V_chWithin hf u1 (by omega : p + k ≤ 12)) (fun v6 h6 => ?_)
  by_cases hc : 1000 * x.toInt ≤ sD f p (k + 1)
  · have ok : Sp n f (1000 * x.toInt) y (if y = 0 then cn p else cn (p + k)) := Or.inl ⟨p, k, by omega, hc, fun s' l' h1 h2 => by
      by_cases e : l' < k
      · exact absurd h2 (q4 s' l' h1 e)
      · by_cases e2 : l' = k
        · right
          refine ⟨e2.symm, ?_⟩
          by_cases e3 : s' < p
          · rw [e2] at h2
            exact absurd h2 (p5 s' e3)
          · omega
        · left; omega, rfl⟩
    rw [if_neg (fun q => by
      have z := Int32.lt_iff_toInt_lt.mp q
      rw [eT, h6] at z
      exact absurd hc (Int.not_le.mpr z))]
    by_cases hy : y = 0
    · rw [if_pos hy] at ok ⊢
      exact pk_some (show Sp n f (1000 * x.toInt) y (cn p) from ok)
    · rw [if_neg hy] at ok ⊢
      exact pk_some (show Sp n f (1000 * x.toInt) y (cn (p + k)) from ok)
  · rw [if_pos (Int32.lt_iff_toInt_lt.mpr (by rw [eT, h6]; exact Int.not_le.mp hc))]
    refine pk_some (show _ ∧ _ ∧ _ ∧ _ ∧ ∃ p', _ from ⟨rfl, rfl, rfl, rfl, p + 1, by omega, cnu (by omega), fun s' h => ?_, rfl⟩)
    by_cases e : s' = p
    · rw [e]; exact hc
    · exact p5 s' (by omega)
theorem V_longR {t : mG} {n p : Nat} {f : Nat → Int64} {x : Int32} (hf : ∀ i, 0 ≤ (f i).toInt ∧ (f i).toInt ≤ 1000000) (g2 : t.1 89 112 = cn n) (hn : n ≤ 12) (ht : ∀ i, i ≤ n → t.2 98 i = f i) (hp : p ≤ n) (hx : 0 ≤ x.toInt ∧ x.toInt ≤ 1000) : pk (F_X12_longFrom t (cn p) (cl 1000 * x.toInt64)) (fun v => (∃ l, p + l ≤ n ∧ 1000 * x.toInt ≤ sD f p (l + 1) ∧ (∀ l', l' < l → ¬ 1000 * x.toInt ≤ sD f p (l' + 1)) ∧ v = cn (l + 1)) ∨ ((∀ l', p + l' ≤ n → ¬ 1000 * x.toInt ≤ sD f p (l' + 1)) ∧ v = ci (-1))) := by
  have eT : (cl 1000 * x.toInt64).toInt = 1000 * x.toInt := l_mul (by decide : (cl 1000).toInt = 1000) (Int32.toInt_toInt64 x) (by omega) (by omega)
  unfold F_X12_longFrom F_X12_longFrom_L6
  refine pk_whl (fun v => v.1 = cn p ∧ v.2.1 = cl 1000 * x.toInt64 ∧ ∃ l, p + l ≤ n + 1 ∧ v.2.2.1.toInt = sD f p l ∧ v.2.2.2 = cn (p + l) ∧ ∀ l', l' < l → ¬ 1000 * x.toInt ≤ sD f p (l' + 1)) ⟨rfl, rfl, 0, by omega, (show (cz 0).toInt = 0 by decide), rfl, fun l' h => absurd h (by omega)⟩ (fun v hv => ?_)
  obtain ⟨x1, x2, x4, x6⟩ := v
  obtain ⟨q0o, q1o, l, hl, q2o, q3o, q4o⟩ := hv
  have q0 : x1 = cn p := q0o
  have q1 : x2 = cl 1000 * x.toInt64 := q1o
  have q2 : x4.toInt = sD f p l := q2o
  have q3 : x6 = cn (p + l) := q3o
  have q4 : ∀ l', l' < l → ¬ 1000 * x.toInt ≤ sD f p (l' + 1) := q4o
  unfold F_X12_longFrom_B6
  dsimp only
  rw [q0, q1, q3, g2]
  by_cases hln : n < p + l
  · rw [if_pos ((cn_lt (by omega) (by omega)).mpr hln)]
    exact pk_some (show (_ ∨ _) from Or.inr ⟨fun l' h => q4 l' (by omega), rfl⟩)
  rw [if_neg (fun q => hln ((cn_lt (by omega) (by omega)).mp q)), cn_nat (n := p + l) (by omega), ht (p + l) (by omega)]
  refine pk_nn ?_
  have b1' := sD_b hf p l
  have b2' := hf (p + l)
  have c : -9223372036854775808 ≤ sD f p l + (f (p + l)).toInt ∧ sD f p l + (f (p + l)).toInt < 9223372036854775808 := by
    generalize (f (p + l)).toInt = F at b2'
    generalize sD f p l = S at b1'
    exact ⟨by omega, by omega⟩
  have e3 : (x4 + f (p + l)).toInt = sD f p (l + 1) := l_add q2 rfl c.1 c.2
  by_cases hc : 1000 * x.toInt ≤ sD f p (l + 1)
  · rw [if_neg (fun q => by
      have z := Int64.lt_iff_toInt_lt.mp ((lg_cmp_lt _ _).mp q)
      rw [eT, e3] at z
      exact absurd hc (Int.not_le.mpr z)), cn_sub (a := p + l) (b := p) (by omega) (by omega), show p + l - p = l by omega]
    exact pk_some (show (_ ∨ _) from Or.inl ⟨l, by omega, hc, q4, cnu (by omega)⟩)
  · rw [if_pos ((lg_cmp_lt _ _).mpr (Int64.lt_iff_toInt_lt.mpr (by rw [eT, e3]; exact Int.not_le.mp hc)))]
    refine pk_some (show _ ∧ _ ∧ ∃ l', _ from ⟨rfl, rfl, l + 1, by omega, e3, cnu (by omega), fun l' h => ?_⟩)
    by_cases e : l' = l
    · rw [e]; exact hc
    · exact q4 l' (by omega)
/-- the best up to here -/
def Bp (n p : Nat) (f : Nat → Int64) (T : Int) (x3 x4 : Int32) : Prop := (∃ s l, s < p ∧ s + l ≤ n ∧ T ≤ sD f s (l + 1) ∧ (∀ s' l', s' < p → s' + l' ≤ n → T ≤ sD f s' (l' + 1) → l < l' ∨ (l = l' ∧ s ≤ s')) ∧ x3 = cn (l + 1) ∧ x4 = cn s) ∨ ((∀ s' l', s' < p → s' + l' ≤ n → ¬ T ≤ sD f s' (l' + 1)) ∧ x3 = ci (-1) ∧ x4 = ci (-1))
theorem V_spanR {t : mG} {n : Nat} {f : Nat → Int64} {x y : Int32} (hf : ∀ i, 0 ≤ (f i).toInt ∧ (f i).toInt ≤ 1000000) (g2 : t.1 89 112 = cn n) (hn : n ≤ 12) (ht : ∀ i, i ≤ n → t.2 98 i = f i) (hx : 0 ≤ x.toInt ∧ x.toInt ≤ 1000) : pk (F_X12_span_L34 x y (ci (-1)) (ci (-1)) (ci 0) t) (fun τ => Sp n f (1000 * x.toInt) y τ.1) := by
  unfold F_X12_span_L34
  refine pk_whl (fun v => v.1 = x ∧ v.2.1 = y ∧ ∃ p, p ≤ n + 1 ∧ v.2.2.2.2.1 = cn p ∧ Bp n p f (1000 * x.toInt) v.2.2.1 v.2.2.2.1 ∧ v.2.2.2.2.2 = t) ⟨rfl, rfl, 0, Nat.zero_le _, rfl, Or.inr ⟨fun s' l' h => absurd h (by omega), rfl, rfl⟩, rfl⟩ (fun v hv => ?_)
  obtain ⟨x1, x2, x3, x4, x5, s⟩ := v
  obtain ⟨q0o, q1o, p, hp, q2o, q3o, q4o⟩ := hv
  have q0 : x1 = x := q0o
  have q1 : x2 = y := q1o
  have q2 : x5 = cn p := q2o
  have q3 : Bp n p f (1000 * x.toInt) x3 x4 := q3o
  have q4 : s = t := q4o
  unfold F_X12_span_B34 F_X12_span_80 F_X12_span_87 F_X12_span_103
  dsimp only
  rw [q0, q1, q2, q4, g2]
  by_cases hpn : n < p
  · rw [if_pos ((cn_lt (by omega) (by omega)).mpr hpn)]
    rcases q3 with ⟨z, l, h1, h2, h3, h4, h5, h6⟩ | ⟨h1, h2, h3⟩
    · rw [if_neg (show ¬ x4 = ci (-1) by rw [h6]; exact cn_ne1 (by omega))]
      have ok : Sp n f (1000 * x.toInt) y (if y = 0 then cn z else cn (z + l)) := Or.inl ⟨z, l, h2, h3, fun s' l' k1 k2 => h4 s' l' (by omega) k1 k2, rfl⟩
      by_cases hy : y = 0
      · rw [if_pos hy] at ok ⊢
        rw [b1_some]
        exact pk_some (show Sp n f (1000 * x.toInt) y x4 from by rw [h6]; exact ok)
      · rw [if_neg hy] at ok ⊢
        refine pk_some (show Sp n f (1000 * x.toInt) y ((x4 + x3) - ci 1) from ?_)
        rw [h6, h5, cn_add (a := z) (b := l + 1) (by omega), show cn (z + (l + 1)) - ci 1 = cn (z + (l + 1) - 1) from cn_sub (b := 1) (by omega) (by omega), show z + (l + 1) - 1 = z + l by omega]
        exact ok
    · rw [if_pos h3, b1_some]
      exact pk_some (show Sp n f (1000 * x.toInt) y x4 from by rw [h3]; exact Or.inr ⟨fun s' l' k1 => h1 s' l' (by omega) k1, rfl⟩)
  rw [if_neg (fun q => hpn ((cn_lt (by omega) (by omega)).mp q))]
  refine pk_b1 (V_longR hf g2 hn ht (by omega : p ≤ n) hx) (fun v13 h13 => ?_)
  have nx : ∀ z3 z4, Bp n (p + 1) f (1000 * x.toInt) z3 z4 → pk (some (Sum.inl (x, y, z3, z4, cn p + ci 1, t)) : Option ((Int32 × Int32 × Int32 × Int32 × Int32 × mG) ⊕ (Int32 × mG))) (se (fun v : Int32 × Int32 × Int32 × Int32 × Int32 × mG => v.1 = x ∧ v.2.1 = y ∧ ∃ p, p ≤ n + 1 ∧ v.2.2.2.2.1 = cn p ∧ Bp n p f (1000 * x.toInt) v.2.2.1 v.2.2.2.1 ∧ v.2.2.2.2.2 = t) (fun τ : Int32 × mG => Sp n f (1000 * x.toInt) y τ.1)) := fun z3 z4 hz => pk_some (show _ ∧ _ ∧ ∃ p', _ from ⟨rfl, rfl, p + 1, by omega, cnu (by omega), hz, rfl⟩)
  rcases h13 with ⟨l, h1, h2, h3, h4⟩ | ⟨h1, h2⟩
  · rw [if_neg (show ¬ v13 = ci (-1) by rw [h4]; exact cn_ne1 (by omega))]
    rcases q3 with ⟨z, l0, k1, k2, k3, k4, k5, k6⟩ | ⟨k1, k2, k3⟩
    · rw [if_neg (show ¬ x3 = ci (-1) by rw [k5]; exact cn_ne1 (by omega))]
      by_cases hl : l < l0
      · rw [if_pos (show v13 < x3 by rw [h4, k5]; exact (cn_lt (by omega) (by omega)).mpr (by omega))]
        refine nx _ _ (Or.inl ⟨p, l, by omega, h1, h2, fun s' l' e1 e2 e3 => ?_, h4, rfl⟩)
        by_cases e : s' = p
        · rw [e] at e3
          by_cases f1 : l' < l
          · exact absurd e3 (h3 l' f1)
          · omega
        · have := k4 s' l' (by omega) e2 e3
          omega
      · rw [if_neg (show ¬ v13 < x3 by rw [h4, k5]; exact fun q => hl (by have := (cn_lt (by omega) (by omega)).mp q; omega))]
        refine nx _ _ (Or.inl ⟨z, l0, by omega, k2, k3, fun s' l' e1 e2 e3 => ?_, k5, k6⟩)
        by_cases e : s' = p
        · rw [e] at e3
          by_cases f1 : l' < l
          · exact absurd e3 (h3 l' f1)
          · omega
        · exact k4 s' l' (by omega) e2 e3
    · rw [if_pos k2]
      refine nx _ _ (Or.inl ⟨p, l, by omega, h1, h2, fun s' l' e1 e2 e3 => ?_, h4, rfl⟩)
      by_cases e : s' = p
      · rw [e] at e3
        by_cases f1 : l' < l
        · exact absurd e3 (h3 l' f1)
        · omega
      · exact absurd e3 (k1 s' l' (by omega) e2)
  · rw [if_pos h2]
    refine nx _ _ ?_
    rcases q3 with ⟨z, l0, k1, k2, k3, k4, k5, k6⟩ | ⟨k1, k2, k3⟩
    · refine Or.inl ⟨z, l0, by omega, k2, k3, fun s' l' e1 e2 e3 => ?_, k5, k6⟩
      by_cases e : s' = p
      · rw [e] at e2 e3
        exact absurd e3 (h1 l' e2)
      · exact k4 s' l' (by omega) e2 e3
    · refine Or.inr ⟨fun s' l' e1 e2 => ?_, k2, k3⟩
      by_cases e : s' = p
      · rw [e] at e2 ⊢
        exact h1 l' e2
      · exact k1 s' l' (by omega) e2
theorem R_span {a b : mG} {x y : Int32} (hI : IM b) (h : SIM a b) : rel (F_X11_span x y a) (F_X12_span x y b) (fun τ υ => τ.1 = υ.1) := by
  obtain ⟨n, nc, m, K, g2, V, hm, h3, hw⟩ := SIM_S h
  have hn := K.2.2.1
  unfold F_X11_span F_X12_span F_X11_span_20 F_X12_span_20 F_X11_span_37
  rw [V_within, F_isIn, b1_some, b1_some]
  refine rel_ifs Iff.rfl (fun _ => rel_some rfl) (fun hx => ?_)
  have hx2 := wi_f hx
  rw [show (ci 0).toInt = 0 by decide, show (c16 1000).toInt = 1000 by decide] at hx2
  rw [V_within, F_isIn, b1_some, b1_some]
  refine rel_ifs Iff.rfl (fun _ => rel_some rfl) (fun hy => ?_)
  refine rel_r1 (V_laysC K.2.2.2.2 g2 hn hw hm (fun _ _ _ => rfl)) (fun t qt => ?_)
  obtain ⟨t1, t2⟩ := qt
  have R := V_spanR (y := y) (dN_r hI hw hm n) (by rw [t2 89 (by decide) (by decide)]; exact g2) hn t1 hx2
  obtain ⟨c, hc, ey⟩ := wi_cn (l := 1) (by omega) hy
  rcases (show c = 0 ∨ c = 1 by omega) with e | e <;> rw [e] at ey
  · rw [if_neg (show ¬ y = ci 1 by rw [ey]; decide)]
    refine rel_l2 (V_edgeC (y := ci 0) hI K h3 hw hm hx2) (fun v s q => ?_)
    exact rel_sp R (fun v' qv => show v = v'.1 from Sp_u q (by rw [show y = ci 0 from ey] at qv; exact qv))
  · rw [if_pos (show y = ci 1 from ey)]
    refine rel_l2 (V_edgeC (y := ci 1) hI K h3 hw hm hx2) (fun v s q => ?_)
    exact rel_sp R (fun v' qv => show v = v'.1 from Sp_u q (by rw [show y = ci 1 from ey] at qv; exact qv))
end
end
/-! 5zr1.pairs -/
section
noncomputable section
/-! WHAT TO SAY; the likeliest two -/
def sayB (y : Int64) (p q : Int32) : Int32 := if 0 < lg_cmp ((cl 1000000 - y) * p.toInt64) (y * q.toInt64) then ci 0 else ci 1
theorem sayB_r {y : Int64} {p q : Int32} : sayB y p q = ci 0 ∨ sayB y p q = ci 1 := by
  unfold sayB
  by_cases h : 0 < lg_cmp ((cl 1000000 - y) * p.toInt64) (y * q.toInt64)
  · rw [if_pos h]; exact Or.inl rfl
  · rw [if_neg h]; exact Or.inr rfl
theorem V_isCost {s : mG} {x : Int32} : F_X12_isCost s x = some (wi x (ci 0) (c16 9999)) := by
  unfold F_X12_isCost
  rw [F_isIn, b1_some, if_pos (show wi x (ci 0) (c16 9999) = 0 ∨ wi x (ci 0) (c16 9999) = 1 from wi_b x (ci 0) (c16 9999))]
theorem V_bestSaid {s : mG} {y : Int64} {p q : Int32} : F_X0_isBestSaidIn s y p q = some (sayB y p q) := by
  unfold F_X0_isBestSaidIn sayB
  by_cases h : 0 < lg_cmp ((cl 1000000 - y) * p.toInt64) (y * q.toInt64)
  · rw [if_pos h, if_pos h]
  · rw [if_neg h, if_neg h]
theorem V_saysC {a b : mG} {n nc g m : Nat} {p q : Int32} (hI : IM b) (K : HK (b.1 89) n nc a) (hg : g < n) (h3 : a.1 10 3 = cn m) (hm : m ≤ 6) : pk (F_X0_saysIn (cn g) p q a) (fun τ => τ.1 = sayB (sureN (b.1 89) m g) p q) := by
  unfold F_X0_saysIn
  refine pk_b2 (V_sureC hI K hg h3 hm) (fun v3 s2 qt => ?_)
  obtain ⟨t1o, _⟩ := qt
  have t1 : Su v3 (sureN (b.1 89) m g) := t1o
  rw [V_bestSaid, b1_some, ← t1.1]
  refine pk_pp (pk_some (show sayB _ p q = sayB _ p q from rfl))
theorem R_say {a b : mG} {x y z : Int32} (hI : IM b) (h : SIM a b) : rel (F_X11_say x y z a) (F_X12_say x y z b) (fun τ υ => τ.1 = υ.1) := by
  obtain ⟨n, nc, m, K, g2, V, hm, h3, hw⟩ := SIM_S h
  have hn := K.2.2.1
  unfold F_X11_say F_X12_say F_X11_say_33 F_X12_say_22
  rw [V_isGuest, V_isGuestR g2 hn, b1_some, b1_some, show a.1 (1 + 1) 3 = cn n from K.2.1]
  refine rel_ifs Iff.rfl (fun _ => rel_some rfl) (fun hx => ?_)
  obtain ⟨g, hg, ex⟩ := ig_cn (by omega) hx
  rw [V_within, V_isCost, b1_some, b1_some]
  refine rel_ifs Iff.rfl (fun _ => rel_some rfl) (fun _ => ?_)
  rw [V_within, V_isCost, b1_some, b1_some]
  refine rel_ifs Iff.rfl (fun _ => rel_some rfl) (fun _ => ?_)
  rw [ex]
  refine rel_l2 (V_saysC (p := y) (q := z) hI K hg h3 hm) (fun v12 s11 qo => ?_)
  have q : v12 = sayB (sureN (b.1 89) m g) y z := qo
  refine rel_r2 (V_sureS K.2.2.2.2 hn hg hw hm rfl) (fun v t qt => ?_)
  obtain ⟨t1o, _⟩ := qt
  have t1 : v = sureN (b.1 89) m g := t1o
  rw [t1]
  unfold sayB at q
  by_cases hc : 0 < lg_cmp ((cl 1000000 - sureN (b.1 89) m g) * y.toInt64) (sureN (b.1 89) m g * z.toInt64)
  · rw [if_pos hc] at q ⊢
    rw [q, if_pos c0e0]
    exact rel_some rfl
  · rw [if_neg hc] at q ⊢
    rw [q, if_neg c1n0]
    exact rel_some rfl
/-- as Su, from -1 on -/
def Sm (x : Int32) (y : Int64) : Prop := y = x.toInt64 ∧ -1 ≤ x.toInt ∧ x.toInt ≤ 1000000
theorem Sm_1 : Sm (ci (-1)) (cl (-1)) := (show _ ∧ _ ∧ _ from ⟨by decide, by decide, by decide⟩)
theorem Sm_t {x : Int32} {y : Int64} (h : Sm x y) : y.toInt = x.toInt := by rw [h.1, Int32.toInt_toInt64]
theorem Sm_u {x : Int32} {y : Int64} (h : Su x y) : Sm x y := ⟨h.1, Int.le_trans (by decide) h.2.1, h.2.2⟩
theorem Sm_32 {x : Int32} {y : Int64} (h : Sm x y) : y.toInt32 = x := by
  have r := h.2
  exact Int32.toInt_inj.mp (q32 (Sm_t h) ⟨by omega, by omega⟩)
theorem le64 {x x' : Int32} {y y' : Int64} (h : y.toInt = x.toInt) (h' : y'.toInt = x'.toInt) : x ≤ x' ↔ ¬ 0 < lg_cmp y y' := by
  have e3 := lg_cmp_gt y y'
  rw [Int64.lt_iff_toInt_lt, h, h'] at e3
  rw [e3, Int32.le_iff_toInt_le]
  exact Int.not_lt.symm
theorem R_best2 {b u : mG} {n nc m : Nat} {x : Int32} (Ku : HK (b.1 89) n nc u) (u1 : ∀ g, g < n → Su (u.1 76 g) (sureN (b.1 89) m g)) (g2 : b.1 89 112 = cn n) (hw : b.1 89 115 = cn m) (hm : m ≤ 6) (hx : x = ci 0 ∨ x = ci 1 ∨ x = ci 2) : rel (F_X0_bestPair_L14 x (ci (-1)) (ci (-1)) (ci (-1)) (ci 0) u) (F_X12_pair_L35 x (cl (-1)) (ci (-1)) (ci (-1)) (ci 0) b) (fun τ υ => τ.1 = υ.1) := by
  have hn := Ku.2.2.1
  unfold F_X0_bestPair_L14 F_X12_pair_L35
  refine rel_whl (fun v w => v.1 = x ∧ w.1 = x ∧ v.2.1 = w.2.2.1 ∧ v.2.2.1 = w.2.2.2.1 ∧ Sm v.2.2.2.1 w.2.1 ∧ (∃ k, k ≤ n ∧ v.2.2.2.2.1 = cn k ∧ w.2.2.2.2.1 = cn k) ∧ v.2.2.2.2.2 = u ∧ ∀ j, j ≠ 96 → j ≠ 97 → w.2.2.2.2.2.1 j = b.1 j) ⟨rfl, rfl, rfl, rfl, Sm_1, ⟨0, Nat.zero_le _, rfl, rfl⟩, rfl, fun _ _ _ => rfl⟩ (fun v w hvw => ?_)
  obtain ⟨x1, x2, x3, x4, x5, s⟩ := v
  obtain ⟨y1, y2, y4, y5, y6, t⟩ := w
  obtain ⟨q0o, q1o, q2o, q3o, q4o, ⟨k, hk, q5o, q6o⟩, q7o, ro⟩ := hvw
  have q0 : x1 = x := q0o
  have q1 : y1 = x := q1o
  have q2 : x2 = y4 := q2o
  have q3 : x3 = y5 := q3o
  have q4 : Sm x4 y2 := q4o
  have q5 : x5 = cn k := q5o
  have q6 : y6 = cn k := q6o
  have q7 : s = u := q7o
  have r : ∀ j, j ≠ 96 → j ≠ 97 → t.1 j = b.1 j := ro
  have e89 : t.1 89 = b.1 89 := r 89 (by decide) (by decide)
  unfold F_X0_bestPair_B14 F_X12_pair_B35
  dsimp only
  rw [q0, q1, q2, q3, q5, q6, q7, e89, g2, Ku.2.1]
  by_cases hkn : n ≤ k
  · rw [if_pos ((cn_le (by omega) (by omega)).mpr hkn), if_pos ((cn_le (by omega) (by omega)).mpr hkn)]
    rcases hx with e | e | e
    · rw [e, if_neg (show ¬ ci 0 = ci 2 by decide), if_pos c0e0, if_pos c0e0]
      exact rel_some (show y4 = y4 from rfl)
    · rw [e, if_neg (show ¬ ci 1 = ci 2 by decide), if_neg c1n0, if_neg c1n0, if_pos rfl]
      exact rel_some (show y5 = y5 from rfl)
    · rw [e, if_pos rfl, if_neg (show ¬ ci 2 = 0 by decide), if_neg (show ¬ ci 2 = ci 1 by decide)]
      exact rel_some (show x4 = y2.toInt32 from (Sm_32 q4).symm)
  rw [if_neg (fun q => hkn ((cn_le (by omega) (by omega)).mp q)), if_neg (fun q => hkn ((cn_le (by omega) (by omega)).mp q)), show cn k + ci 1 = cn (k + 1) from cnu (by omega)]
  unfold F_X0_bestPair_L35 F_X12_pair_L53
  refine rel_whl (fun v w => v.1 = x ∧ w.1 = x ∧ v.2.1 = w.2.2.1 ∧ v.2.2.1 = w.2.2.2.1 ∧ Sm v.2.2.2.1 w.2.1 ∧ v.2.2.2.2.1 = cn k ∧ w.2.2.2.2.1 = cn k ∧ (∃ p, p ≤ n ∧ v.2.2.2.2.2.1 = cn p ∧ w.2.2.2.2.2.1 = cn p) ∧ v.2.2.2.2.2.2 = u ∧ ∀ j, j ≠ 96 → j ≠ 97 → w.2.2.2.2.2.2.1 j = b.1 j) ⟨rfl, rfl, rfl, rfl, q4, rfl, rfl, ⟨k + 1, by omega, rfl, rfl⟩, rfl, r⟩ (fun v w hvw => ?_)
  obtain ⟨z1, z2, z3, z4, z5, z6, s'⟩ := v
  obtain ⟨o1, o2, o4, o5, o6, o7, t'⟩ := w
  obtain ⟨p0o, p1o, p2o, p3o, p4o, p5o, p6o, ⟨p, hp, p7o, p8o⟩, p9o, rto⟩ := hvw
  have p0 : z1 = x := p0o
  have p1 : o1 = x := p1o
  have p2 : z2 = o4 := p2o
  have p3 : z3 = o5 := p3o
  have p4 : Sm z4 o2 := p4o
  have p5 : z5 = cn k := p5o
  have p6 : o6 = cn k := p6o
  have p7 : z6 = cn p := p7o
  have p8 : o7 = cn p := p8o
  have p9 : s' = u := p9o
  have rt : ∀ j, j ≠ 96 → j ≠ 97 → t'.1 j = b.1 j := rto
  have f89 : t'.1 89 = b.1 89 := rt 89 (by decide) (by decide)
  unfold F_X0_bestPair_B35 F_X12_pair_B53 F_X0_bestPair_90 F_X12_pair_105
  dsimp only
  rw [p0, p1, p2, p3, p5, p6, p7, p8, p9, f89, g2, Ku.2.1]
  by_cases hpn : n ≤ p
  · rw [if_pos ((cn_le (by omega) (by omega)).mpr hpn), if_pos ((cn_le (by omega) (by omega)).mpr hpn)]
    exact rel_some (show _ ∧ _ ∧ _ ∧ _ ∧ _ ∧ (∃ k', _) ∧ _ ∧ _ from ⟨rfl, rfl, rfl, rfl, p4, ⟨k + 1, by omega, cnu (by omega), cnu (by omega)⟩, rfl, rt⟩)
  rw [if_neg (fun q => hpn ((cn_le (by omega) (by omega)).mp q)), if_neg (fun q => hpn ((cn_le (by omega) (by omega)).mp q)), V_cellJ (j := 76) (k := k) sh76 (by omega) (by decide), b1_some, V_cellJ (j := 76) (k := p) sh76 (by omega) (by decide), b1_some]
  refine rel_l1 (Su_share (u1 k (by omega)) (u1 p (by omega))) (fun v12 h12 => ?_)
  refine rel_r2 (V_sureS Ku.2.2.2.2 hn (by omega : k < n) hw hm f89) (fun v11 s10 qt => ?_)
  obtain ⟨t1o, t2o, _⟩ := qt
  have t1 : v11 = sureN (b.1 89) m k := t1o
  have t2 : ∀ j, j ≠ 96 → j ≠ 97 → s10.1 j = t'.1 j := t2o
  refine rel_r2 (V_sureS Ku.2.2.2.2 hn (by omega : p < n) hw hm ((t2 89 (by decide) (by decide)).trans f89)) (fun v14 s13 qs => ?_)
  obtain ⟨w1o, w2o, _⟩ := qs
  have w1 : v14 = sureN (b.1 89) m p := w1o
  have w2 : ∀ j, j ≠ 96 → j ≠ 97 → s13.1 j = s10.1 j := w2o
  have fr : ∀ j, j ≠ 96 → j ≠ 97 → s13.1 j = b.1 j := fun j h1 h2 => (w2 j h1 h2).trans ((t2 j h1 h2).trans (rt j h1 h2))
  rw [t1, w1]
  have M := le64 (Su_t h12) (Sm_t p4)
  refine rel_ri (fun hc => ?_) (fun hc => ?_)
  · rw [if_neg (fun q => M.mp q hc)]
    exact rel_some (show _ ∧ _ ∧ _ ∧ _ ∧ _ ∧ _ ∧ _ ∧ (∃ k', _) ∧ _ ∧ _ from ⟨rfl, rfl, rfl, rfl, Sm_u h12, rfl, rfl, ⟨p + 1, by omega, cnu (by omega), cnu (by omega)⟩, rfl, fr⟩)
  · rw [if_pos (M.mpr hc)]
    exact rel_some (show _ ∧ _ ∧ _ ∧ _ ∧ _ ∧ _ ∧ _ ∧ (∃ k', _) ∧ _ ∧ _ from ⟨rfl, rfl, rfl, rfl, p4, rfl, rfl, ⟨p + 1, by omega, cnu (by omega), cnu (by omega)⟩, rfl, fr⟩)
theorem R_pair {a b : mG} {x : Int32} (hI : IM b) (h : SIM a b) : rel (F_X11_pair x a) (F_X12_pair x b) (fun τ υ => τ.1 = υ.1) := by
  obtain ⟨n, nc, m, K, g2, V, hm, h3, hw⟩ := SIM_S h
  have hn := K.2.2.1
  unfold F_X11_pair F_X12_pair F_X11_pair_23 F_X12_pair_20
  rw [V_within, F_isIn, b1_some, b1_some]
  refine rel_ifs Iff.rfl (fun _ => rel_some rfl) (fun hx => ?_)
  rw [K.2.1, g2]
  refine rel_ifs Iff.rfl (fun _ => ?_) (fun _ => rel_some rfl)
  obtain ⟨c, hc, ey⟩ := wi_cn (l := 2) (by omega) hx
  have hx3 : x = ci 0 ∨ x = ci 1 ∨ x = ci 2 := by
    rcases (show c = 0 ∨ c = 1 ∨ c = 2 by omega) with e | e | e <;> rw [e] at ey
    · exact Or.inl ey
    · exact Or.inr (Or.inl ey)
    · exact Or.inr (Or.inr ey)
  unfold F_X0_bestPair
  rw [b2_b1]
  refine rel_l1 (V_weigh hI K h3 hm) (fun u qu => ?_)
  obtain ⟨u1, u2⟩ := qu
  have Ku : HK (b.1 89) n nc u := HK_low K (fun j h1 h2 => u2 j (by omega) (by omega) (by omega) (by omega))
  rw [b2_id]
  exact R_best2 Ku u1 g2 hw hm hx3
end
end
/-! 5zr2.next -/
section
noncomputable section
/-! WHICH SIGN NEXT -/
/-- the chance to see it -/
def sgW (w : Nat → Int32) (y : Int64) (k : Nat) : Int64 := ((y * (w (143 + 2 * k)).toInt64) + ((cl 1000000 - y) * (w (143 + 2 * k + 1)).toInt64)) / cl 1000
theorem sg_i {X P Q : Int} (h0 : 0 ≤ X) (h1 : X ≤ 1000000) (p0 : 0 ≤ P) (p1 : P ≤ 1000) (q0 : 0 ≤ Q) (q1 : Q ≤ 1000) : ∃ A B : Int, X * P = A ∧ (1000000 - X) * Q = B ∧ (0 ≤ A ∧ A < 2147483648) ∧ (0 ≤ B ∧ B < 2147483648) ∧ (0 ≤ A + B ∧ A + B < 2147483648) ∧ 0 ≤ (A + B) / 1000 ∧ (A + B) / 1000 ≤ 1000000 := by
  have a0 : 0 ≤ X * P := Int.mul_nonneg h0 p0
  have a1 : X * P ≤ X * 1000 := Int.mul_le_mul_of_nonneg_left p1 h0
  have d0 : 0 ≤ (1000000 - X) * Q := Int.mul_nonneg (by omega) q0
  have d1 : (1000000 - X) * Q ≤ (1000000 - X) * 1000 := Int.mul_le_mul_of_nonneg_left q1 (by omega)
  generalize X * P = A at a0 a1
  generalize (1000000 - X) * Q = B at d0 d1
  exact ⟨A, B, rfl, rfl, ⟨a0, by omega⟩, ⟨d0, by omega⟩, ⟨by omega, by omega⟩, by omega, by omega⟩
theorem sg_m {y p q : Int64} (hy : 0 ≤ y.toInt ∧ y.toInt ≤ 1000000) (hp : 0 ≤ p.toInt ∧ p.toInt ≤ 1000) (hq : 0 ≤ q.toInt ∧ q.toInt ≤ 1000) : 0 ≤ (((y * p) + ((cl 1000000 - y) * q)) / cl 1000).toInt ∧ (((y * p) + ((cl 1000000 - y) * q)) / cl 1000).toInt ≤ 1000000 := by
  obtain ⟨A, B, hA, hB, ra, rb, rc, d1, d2⟩ := sg_i hy.1 hy.2 hp.1 hp.2 hq.1 hq.2
  have s1 : (cl 1000000 - y).toInt = 1000000 - y.toInt := l_sub (by decide : (cl 1000000).toInt = 1000000) rfl (by omega) (by omega)
  have aa := (lo32 ra).2
  have bb := (lo32 rb).2
  have cc := (lo32 rc).2
  have c1 : (y * p).toInt = A := by
    rw [← hA] at aa ⊢
    exact l_mul rfl rfl aa.1 aa.2
  have c2 : ((cl 1000000 - y) * q).toInt = B := by
    rw [← hB] at bb ⊢
    exact l_mul s1 rfl bb.1 bb.2
  have c3 : ((y * p) + ((cl 1000000 - y) * q)).toInt = A + B := l_add c1 c2 cc.1 cc.2
  have f1 : (((y * p) + ((cl 1000000 - y) * q)) / cl 1000).toInt = (A + B) / 1000 := l_div c3 (by decide : (cl 1000).toInt = 1000) rc.1 (by decide) cc.2
  rw [f1]
  exact ⟨d1, d2⟩
theorem sgW_r {b : mG} {y : Int64} {m k : Nat} (hI : IM b) (hw : b.1 89 115 = cn m) (hm : m ≤ 6) (hk : k < m) (hy : 0 ≤ y.toInt ∧ y.toInt ≤ 1000000) : 0 ≤ (sgW (b.1 89) y k).toInt ∧ (sgW (b.1 89) y k).toInt ≤ 1000000 := by
  obtain ⟨r1, r2⟩ := sg_r hI hw hm hk
  have p1 := i64_r r1
  have p2 := i64_r r2
  exact sg_m hy ⟨Int.le_trans (by decide) p1.1, Int.le_trans p1.2 (by decide)⟩ ⟨Int.le_trans (by decide) p2.1, Int.le_trans p2.2 (by decide)⟩
theorem V_seeC {a b : mG} {x : Int32} {y : Int64} {m k : Nat} (hI : IM b) (HS : TWr 10 2 6 115 ixS a.1 (b.1 89)) (h3 : a.1 10 3 = cn m) (hw : b.1 89 115 = cn m) (hm : m ≤ 6) (hk : k < m) (hs : Su x y) : pk (F_X0_chanceToSee a x (cn k)) (fun v => Su v (sgW (b.1 89) y k)) := by
  have rr := sgW_r hI hw hm hk (Su_r hs)
  unfold F_X0_chanceToSee
  rw [V_atS (c := 0) (k := ci 0) HS h3 hm hk (by decide) rfl, b1_some, V_atS (c := 1) (k := ci 1) HS h3 hm hk (by decide) rfl, b1_some, show ixS k 0 = 143 + 2 * k from rfl, show ixS k 1 = 143 + 2 * k + 1 from rfl, x64_sub hs.2, ← hs.1]
  exact pk_some (Su_of rr)
theorem V_seeR {b : mG} {y : Int64} {k : Nat} (hk : k < 6) : pk (F_X12_seeing b y (cn k)) (fun v => v = sgW (b.1 89) y k) := by
  unfold F_X12_seeing
  rw [show ci 2 * cn k = cn (2 * k) from cn_mul (a := 2) (by omega) (by omega) (by omega), show c16 143 + cn (2 * k) = cn (143 + 2 * k) from cn_add (a := 143) (by omega), show cn (143 + 2 * k) + ci 1 = cn (143 + 2 * k + 1) from cn_add (b := 1) (by omega), cn_nat (n := 143 + 2 * k) (by omega), cn_nat (n := 143 + 2 * k + 1) (by omega)]
  exact pk_nn (pk_nn (pk_some rfl))
/-- the surer of the two -/
def sur (z : Int64) : Int64 := if lg_cmp z (cl 1000000 - z) ≤ 0 then cl 1000000 - z else z
theorem lmax_sur {z : Int64} : lmax z (cl 1000000 - z) = sur z := by
  unfold sur
  show (if cl 1000000 - z < z then z else cl 1000000 - z) = _
  by_cases h : z ≤ cl 1000000 - z
  · rw [if_pos ((lg_cmp_le _ _).mpr h), if_neg (fun q => by
      rw [Int64.lt_iff_toInt_lt] at q
      rw [Int64.le_iff_toInt_le] at h
      exact absurd q (Int.not_lt.mpr h))]
  · rw [if_neg (fun q => h ((lg_cmp_le _ _).mp q)), if_pos (by
      rw [Int64.le_iff_toInt_le] at h
      rw [Int64.lt_iff_toInt_lt]
      exact Int.not_le.mp h)]
def wN (w : Nat → Int32) (y : Int64) (k : Nat) : Int64 := (sgW w y k * sur (byS w y k (ci 1))) + ((cl 1000000 - sgW w y k) * sur (byS w y k (ci 0)))
theorem V_worthC {a b : mG} {x : Int32} {y : Int64} {m k : Nat} (hI : IM b) (HS : TWr 10 2 6 115 ixS a.1 (b.1 89)) (h3 : a.1 10 3 = cn m) (hw : b.1 89 115 = cn m) (hm : m ≤ 6) (hk : k < m) (hs : Su x y) : pk (F_X0_surenessBy a x (cn k)) (fun v => v = wN (b.1 89) y k) := by
  unfold F_X0_surenessBy
  refine pk_b1 (V_seeC hI HS h3 hw hm hk hs) (fun v2 h2 => ?_)
  refine pk_b1 (V_afterC hI HS h3 hm hk hs (Or.inr rfl)) (fun v4 h4 => ?_)
  refine pk_b1 (V_afterC hI HS h3 hm hk hs (Or.inl rfl)) (fun v6 h6 => ?_)
  rw [x64_sub h2.2, ← h2.1, ← h4.1, ← h6.1, lmax_sur, lmax_sur]
  exact pk_some rfl
theorem V_surer {s : mG} {z : Int64} : F_X12_surer s z = some (sur z) := by
  unfold F_X12_surer sur
  by_cases h : lg_cmp z (cl 1000000 - z) ≤ 0
  · rw [if_pos h, if_pos h]
  · rw [if_neg h, if_neg h]
theorem V_worthR {b : mG} {y : Int64} {k : Nat} (hk : k < 6) : pk (F_X12_worthOf b y (cn k)) (fun v => v = wN (b.1 89) y k) := by
  unfold F_X12_worthOf
  refine pk_b1 (V_seeR hk) (fun v2 h2 => ?_)
  refine pk_b1 (V_bySignR hk) (fun v4 h4 => ?_)
  rw [V_surer, b1_some]
  refine pk_b1 (V_bySignR hk) (fun v8 h8 => ?_)
  rw [V_surer, b1_some, h2, h4, h8]
  exact pk_some rfl
/-- the best of the first k that stand open -/
def bsN (f : Nat → Int64) (q : Nat → Int32) : Nat → Int32 × Int64
  | 0 => (ci (-1), cl (-1))
  | k + 1 => if q k = ci (-1) ∧ (bsN f q k).2.toInt < (f k).toInt then (cn k, f k) else bsN f q k
theorem bsN_s {f : Nat → Int64} {q : Nat → Int32} {k : Nat} : bsN f q (k + 1) = if q k = ci (-1) ∧ (bsN f q k).2.toInt < (f k).toInt then (cn k, f k) else bsN f q k := rfl
theorem V_bestC {a b : mG} {x : Int32} {y : Int64} {m : Nat} {q : Nat → Int32} (hI : IM b) (HS : TWr 10 2 6 115 ixS a.1 (b.1 89)) (h3 : a.1 10 3 = cn m) (hw : b.1 89 115 = cn m) (hm : m ≤ 6) (hs : Su x y) (h74 : ∀ k, k < 6 → a.1 74 k = q k) : pk (F_X0_bestSign a x) (fun v => v = (bsN (wN (b.1 89) y) q m).1) := by
  unfold F_X0_bestSign F_X0_bestSign_L9
  refine pk_whl (fun v => v.1 = x ∧ ∃ k, k ≤ m ∧ v.2.1 = (bsN (wN (b.1 89) y) q k).1 ∧ v.2.2.1 = (bsN (wN (b.1 89) y) q k).2 ∧ v.2.2.2 = cn k) ⟨rfl, 0, Nat.zero_le _, rfl, rfl, rfl⟩ (fun v hv => ?_)
  obtain ⟨x1, x2, x3, x5⟩ := v
  obtain ⟨q0o, k, hk, q1o, q2o, q3o⟩ := hv
  have q0 : x1 = x := q0o
  have q1 : x2 = (bsN (wN (b.1 89) y) q k).1 := q1o
  have q2 : x3 = (bsN (wN (b.1 89) y) q k).2 := q2o
  have q3 : x5 = cn k := q3o
  unfold F_X0_bestSign_B9 F_X0_bestSign_59
  dsimp only
  rw [q0, q1, q2, q3, h3]
  by_cases hkm : m ≤ k
  · have ek : k = m := by omega
    rw [if_pos ((cn_le (by omega) (by omega)).mpr hkm), ek]
    exact pk_some (show (bsN (wN (b.1 89) y) q m).1 = _ from rfl)
  rw [if_neg (fun z => hkm ((cn_le (by omega) (by omega)).mp z))]
  refine pk_b1 (V_worthC hI HS h3 hw hm (by omega : k < m) hs) (fun v3 hv3 => ?_)
  rw [V_cellJ (j := 74) (k := k) sh74 (by omega) (by decide), b1_some, h74 k (by omega), hv3]
  by_cases e1 : q k = ci (-1)
  · rw [if_pos e1]
    by_cases e2 : (bsN (wN (b.1 89) y) q k).2.toInt < (wN (b.1 89) y k).toInt
    · rw [if_neg (fun z => by
        have z := (lg_cmp_le _ _).mp z
        rw [Int64.le_iff_toInt_le] at z
        exact absurd e2 (Int.not_lt.mpr z))]
      exact pk_some (show _ ∧ ∃ k', _ from ⟨rfl, k + 1, by omega, by rw [bsN_s, if_pos ⟨e1, e2⟩], by rw [bsN_s, if_pos ⟨e1, e2⟩], cnu (by omega)⟩)
    · rw [if_pos ((lg_cmp_le _ _).mpr (Int64.le_iff_toInt_le.mpr (Int.not_lt.mp e2)))]
      exact pk_some (show _ ∧ ∃ k', _ from ⟨rfl, k + 1, by omega, by rw [bsN_s, if_neg (fun z => e2 z.2)], by rw [bsN_s, if_neg (fun z => e2 z.2)], cnu (by omega)⟩)
  · rw [if_neg e1]
    exact pk_some (show _ ∧ ∃ k', _ from ⟨rfl, k + 1, by omega, by rw [bsN_s, if_neg (fun z => e1 z.1)], by rw [bsN_s, if_neg (fun z => e1 z.1)], cnu (by omega)⟩)
/-- the signs looked at, as bits -/
theorem lo6 {v : Int32} (h : ∀ i, i < 32 → btk v i = true → i < 6) : ∃ y, y < 64 ∧ v = cn y := by
  have hm : v.toBitVec.toNat < 2 ^ 6 := Nat.lt_pow_two_of_testBit _ (fun i hi => by
    by_cases hi2 : i < 32
    · cases e : Nat.testBit v.toBitVec.toNat i with
      | false => rfl
      | true => exact absurd (h i hi2 e) (by omega)
    · exact BitVec.getLsbD_of_ge v.toBitVec i (by omega))
  have hm : v.toBitVec.toNat < 64 := hm
  refine ⟨v.toBitVec.toNat, hm, Int32.toBitVec_inj.mp (BitVec.eq_of_toNat_eq ?_)⟩
  show _ = (BitVec.ofNat 32 v.toBitVec.toNat).toNat
  rw [BitVec.toNat_ofNat]
  omega
theorem sr_6 : ∀ y, y < 64 → ∀ k, k < 6 → ((cn y >>> (cn k &&& 31)) &&& ci 1 = ci 1 ↔ btk (cn y) k = true) := by decide +kernel
def LkB (q : Nat → Int32) (k : Nat) (v : Int32) : Prop := ∀ i, i < 32 → (btk v i = true ↔ i < k ∧ ¬ q i = ci (-1))
theorem V_looked {b s : mG} {n g m : Nat} (hn : n ≤ 12) (hg : g < n) (hw : b.1 89 115 = cn m) (hm : m ≤ 6) (e89 : s.1 89 = b.1 89) : pk (F_X12_lookedAt s (cn g)) (LkB (glw (b.1 89) g) m) := by
  unfold F_X12_lookedAt F_X12_lookedAt_L4
  refine pk_whl (fun v => v.1 = cn g ∧ ∃ k, k ≤ m ∧ LkB (glw (b.1 89) g) k v.2.1 ∧ v.2.2 = cn k) ⟨rfl, 0, Nat.zero_le _, fun i hi => ⟨fun q => absurd q (bt_0n hi), fun q => absurd q.1 (by omega)⟩, rfl⟩ (fun v hv => ?_)
  obtain ⟨x1, x2, x3⟩ := v
  obtain ⟨q0o, k, hk, q1o, q2o⟩ := hv
  have q0 : x1 = cn g := q0o
  have q1 : LkB (glw (b.1 89) g) k x2 := q1o
  have q2 : x3 = cn k := q2o
  unfold F_X12_lookedAt_B4 F_X12_lookedAt_41
  dsimp only
  rw [q0, q2, e89, hw]
  by_cases hkm : m ≤ k
  · have ek : k = m := by omega
    rw [if_pos ((cn_le (by omega) (by omega)).mpr hkm)]
    rw [ek] at q1
    exact pk_some (show LkB _ m x2 from q1)
  rw [if_neg (fun z => hkm ((cn_le (by omega) (by omega)).mp z)), ei_G (by omega), cn_nat (n := 39 + 6 * g + k) (by omega), show b.1 89 (39 + 6 * g + k) = glw (b.1 89) g k from rfl]
  refine pk_nn ?_
  have st : ∀ d : Int32, (∀ i, i < 32 → (btk d i = true ↔ i = k ∧ ¬ glw (b.1 89) g k = ci (-1))) → LkB (glw (b.1 89) g) (k + 1) (x2 ||| d) := fun d hd i hi => by
    rw [bt_or, Bool.or_eq_true, q1 i hi, hd i hi]
    constructor
    · intro z
      rcases z with z | z
      · exact ⟨by have := z.1; omega, z.2⟩
      · exact ⟨by have := z.1; omega, by rw [z.1]; exact z.2⟩
    · intro z
      by_cases ei : i = k
      · exact Or.inr ⟨ei, by rw [← ei]; exact z.2⟩
      · exact Or.inl ⟨by have := z.1; omega, z.2⟩
  by_cases e1 : glw (b.1 89) g k = ci (-1)
  · rw [if_pos e1]
    exact pk_some (show _ ∧ ∃ k', _ from ⟨rfl, k + 1, by omega, st _ (fun i hi => ⟨fun z => absurd z (bt_0n hi), fun z => absurd e1 z.2⟩), cnu (by omega)⟩)
  · rw [if_neg e1]
    exact pk_some (show _ ∧ ∃ k', _ from ⟨rfl, k + 1, by omega, st _ (fun i hi => by rw [bt_bit k (by omega) i hi]; exact ⟨fun z => ⟨of_decide_eq_true z, e1⟩, fun z => decide_eq_true z.1⟩), cnu (by omega)⟩)
theorem V_nextR {b s : mG} {y : Int64} {m : Nat} {q : Nat → Int32} {v : Int32} (hw : b.1 89 115 = cn m) (hm : m ≤ 6) (e89 : s.1 89 = b.1 89) (hv : LkB q m v) : pk (F_X12_nextOf s y v) (fun u => u = (bsN (wN (b.1 89) y) q m).1) := by
  obtain ⟨z, hz, ez⟩ := lo6 (v := v) (fun i hi h => by have := ((hv i hi).mp h).1; omega)
  unfold F_X12_nextOf F_X12_nextOf_L11
  refine pk_whl (fun w => w.1 = y ∧ w.2.1 = v ∧ ∃ k, k ≤ m ∧ w.2.2.1 = (bsN (wN (b.1 89) y) q k).1 ∧ w.2.2.2.1 = (bsN (wN (b.1 89) y) q k).2 ∧ w.2.2.2.2 = cn k) ⟨rfl, rfl, 0, Nat.zero_le _, rfl, rfl, rfl⟩ (fun w hw2 => ?_)
  obtain ⟨x1, x3, x4, x5, x7⟩ := w
  obtain ⟨q0o, q1o, k, hk, q2o, q3o, q4o⟩ := hw2
  have q0 : x1 = y := q0o
  have q1 : x3 = v := q1o
  have q2 : x4 = (bsN (wN (b.1 89) y) q k).1 := q2o
  have q3 : x5 = (bsN (wN (b.1 89) y) q k).2 := q3o
  have q4 : x7 = cn k := q4o
  unfold F_X12_nextOf_B11 F_X12_nextOf_62
  dsimp only
  rw [q0, q1, q2, q3, q4, e89, hw]
  by_cases hkm : m ≤ k
  · have ek : k = m := by omega
    rw [if_pos ((cn_le (by omega) (by omega)).mpr hkm), ek]
    exact pk_some (show (bsN (wN (b.1 89) y) q m).1 = _ from rfl)
  rw [if_neg (fun z => hkm ((cn_le (by omega) (by omega)).mp z))]
  have bit : (v >>> (cn k &&& 31)) &&& ci 1 = ci 1 ↔ ¬ q k = ci (-1) := by
    rw [ez, sr_6 z hz k (by omega), ← ez, hv k (by omega)]
    exact ⟨fun h => h.2, fun h => ⟨by omega, h⟩⟩
  by_cases e1 : q k = ci (-1)
  · rw [if_neg (fun h => bit.mp h e1)]
    refine pk_b1 (V_worthR (by omega : k < 6)) (fun v4 h4 => ?_)
    rw [e89] at h4
    rw [h4]
    by_cases e2 : (bsN (wN (b.1 89) y) q k).2.toInt < (wN (b.1 89) y k).toInt
    · rw [if_pos ((lg_cmp_gt _ _).mpr (Int64.lt_iff_toInt_lt.mpr e2))]
      refine pk_b1 (V_worthR (by omega : k < 6)) (fun v7 h7 => ?_)
      rw [e89] at h7
      rw [h7]
      exact pk_some (show _ ∧ _ ∧ ∃ k', _ from ⟨rfl, rfl, k + 1, by omega, by rw [bsN_s, if_pos ⟨e1, e2⟩], by rw [bsN_s, if_pos ⟨e1, e2⟩], cnu (by omega)⟩)
    · rw [if_neg (fun h => e2 (Int64.lt_iff_toInt_lt.mp ((lg_cmp_gt _ _).mp h)))]
      exact pk_some (show _ ∧ _ ∧ ∃ k', _ from ⟨rfl, rfl, k + 1, by omega, by rw [bsN_s, if_neg (fun z => e2 z.2)], by rw [bsN_s, if_neg (fun z => e2 z.2)], cnu (by omega)⟩)
  · rw [if_pos (bit.mpr e1)]
    exact pk_some (show _ ∧ _ ∧ ∃ k', _ from ⟨rfl, rfl, k + 1, by omega, by rw [bsN_s, if_neg (fun z => e1 z.1)], by rw [bsN_s, if_neg (fun z => e1 z.1)], cnu (by omega)⟩)
theorem V_signC {a b : mG} {n nc g m : Nat} (hI : IM b) (K : HK (b.1 89) n nc a) (hg : g < n) (h3 : a.1 10 3 = cn m) (hw : b.1 89 115 = cn m) (hm : m ≤ 6) : pk (F_X0_signAt (cn g) (ci 0) a) (fun τ => τ.1 = (bsN (wN (b.1 89) (sureN (b.1 89) m g)) (glw (b.1 89) g) m).1) := by
  unfold F_X0_signAt
  refine pk_b1 (V_glance K hg) (fun u qu => ?_)
  obtain ⟨u1, u2⟩ := qu
  have Ku : HK (b.1 89) n nc u := HK_low K (fun j _ h2 => u2 j (by omega))
  have e10 : u.1 10 3 = cn m := by rw [u2 10 (by decide)]; exact h3
  unfold F_X0_signAt_L7
  refine pk_whl (fun v => v = (cn g, ci 0, ci 0, u)) rfl (fun v hv => ?_)
  rw [hv]
  unfold F_X0_signAt_B7 F_X0_signAt_39
  dsimp only
  rw [if_neg (show ¬ c8 6 ≤ ci 0 by decide)]
  refine pk_b2 (V_byGlance hI Ku hg e10 hm u1) (fun v6 t qt => ?_)
  obtain ⟨t1o, t2o⟩ := qt
  have t1 : Su v6 (sureN (b.1 89) m g) := t1o
  have t2 : ∀ j, j ≠ 69 → j ≠ 70 → t.1 j = u.1 j := t2o
  have HS : TWr 10 2 6 115 ixS t.1 (b.1 89) := TWr_same Ku.1.2.2.2.2.1 (t2 10 (by decide) (by decide)) (t2 11 (by decide) (by decide)) rfl (fun _ _ _ _ => rfl)
  refine pk_b1 (V_bestC (q := glw (b.1 89) g) hI HS (by rw [t2 10 (by decide) (by decide)]; exact e10) hw hm t1 (fun k hk => by rw [t2 74 (by decide) (by decide)]; exact u1 k hk)) (fun v8 h8 => ?_)
  by_cases e : v8 = ci (-1)
  · rw [if_pos e, b1_some]
    exact pk_some (show v8 = _ from h8)
  · rw [if_neg e, if_pos rfl, b1_some]
    exact pk_some (show v8 = _ from h8)
theorem R_next {a b : mG} {x : Int32} (hI : IM b) (h : SIM a b) : rel (F_X11_next x a) (F_X12_next x b) (fun τ υ => τ.1 = υ.1) := by
  obtain ⟨n, nc, m, K, g2, V, hm, h3, hw⟩ := SIM_S h
  have hn := K.2.2.1
  unfold F_X11_next F_X12_next
  rw [V_isGuest, V_isGuestR g2 hn, b1_some, b1_some, show a.1 (1 + 1) 3 = cn n from K.2.1]
  refine rel_ifs Iff.rfl (fun _ => rel_some rfl) (fun hx => ?_)
  obtain ⟨g, hg, ex⟩ := ig_cn (by omega) hx
  rw [ex]
  refine rel_l2 (V_signC hI K hg h3 hw hm) (fun v6 s5 qo => ?_)
  have q : v6 = (bsN (wN (b.1 89) (sureN (b.1 89) m g)) (glw (b.1 89) g) m).1 := qo
  refine rel_r2 (V_sureS K.2.2.2.2 hn hg hw hm rfl) (fun v t qt => ?_)
  obtain ⟨t1o, t2o, _⟩ := qt
  have t1 : v = sureN (b.1 89) m g := t1o
  have t2 : ∀ j, j ≠ 96 → j ≠ 97 → t.1 j = b.1 j := t2o
  have e89 : t.1 89 = b.1 89 := t2 89 (by decide) (by decide)
  refine rel_r1 (V_looked hn hg hw hm e89) (fun v8 h8 => ?_)
  rw [t1]
  refine rel_r1 (V_nextR hw hm e89 h8) (fun v10 h10 => ?_)
  exact rel_some (show v6 = v10 from q.trans h10.symm)
end
end
/-! 5zs.lack -/
section
noncomputable section
/-! WHOSE KEY IS WANTING -/
theorem cBt_ext {f g : Nat → Bool} : ∀ k, (∀ i, i < k → f i = g i) → cBt f k = cBt g k := by
  intro k
  induction k with
  | zero => intro _; rfl
  | succ k ih =>
    intro h
    unfold cBt
    rw [ih (fun i hi => h i (by omega)), h k (by omega)]
theorem cBt_stop {f : Nat → Bool} {n : Nat} (h : ∀ i, n ≤ i → f i = false) : ∀ d, cBt f (n + d) = cBt f n := by
  intro d
  induction d with
  | zero => rfl
  | succ d ih =>
    show cBt f (n + d) + (if f (n + d) = true then 1 else 0) = _
    rw [ih, h (n + d) (by omega), if_neg (by decide)]
    rfl
/-- he is out and so is his key; he has none on the board -/
def klB (w : Nat → Int32) (n i : Nat) : Bool := decide (i < n ∧ w (15 + i) = ci (-1))
def koB (w : Nat → Int32) (n i : Nat) : Bool := decide ((i < n ∧ w (15 + i) = ci (-1)) ∧ w (3 + i) = ci 1)
theorem mask_of {v : Int32} {f : Nat → Bool} {n : Nat} {s : mG} (hn : n ≤ 12) (hf : ∀ i, n ≤ i → f i = false) (h : ∀ i, i < 32 → (btk v i = true ↔ f i = true)) : F_J6_bitCount_0f7a4 s v = some (cn (cBt f n)) := by
  have lo : ∀ i, i < 32 → btk v i = true → i < 12 := fun i hi q => by
    by_cases e : n ≤ i
    · have z := (h i hi).mp q
      rw [hf i e] at z
      cases z
    · omega
  rw [V_bits lo, cBt_ext (g := f) 12 (fun i hi => Bool.eq_iff_iff.mpr (h i (by omega)))]
  obtain ⟨d, hd⟩ : ∃ d, 12 = n + d := ⟨12 - n, by omega⟩
  rw [hd, cBt_stop hf]
theorem V_klSet {s : mG} {n : Nat} {w : Nat → Int32} (H : TWr 2 11 12 112 ixG s.1 w) (e2 : s.1 2 3 = cn n) (hn : n ≤ 12) : pk (F_X2_keylessSet 1 s) (fun v => ∀ i, i < 32 → (btk v i = true ↔ klB w n i = true)) := by
  unfold F_X2_keylessSet F_X2_keylessSet_L4
  refine pk_whl (fun v => ∃ k, k ≤ n ∧ v.2 = cn k ∧ ∀ i, i < 32 → (btk v.1 i = true ↔ i < k ∧ w (15 + i) = ci (-1))) ⟨0, Nat.zero_le _, rfl, fun i hi => ⟨fun q => absurd q (bt_0n hi), fun q => absurd q.1 (by omega)⟩⟩ (fun v hv => ?_)
  obtain ⟨x1, x2⟩ := v
  obtain ⟨k, hk, eo, hbo⟩ := hv
  have e : x2 = cn k := eo
  have hb : ∀ i, i < 32 → (btk x1 i = true ↔ i < k ∧ w (15 + i) = ci (-1)) := hbo
  unfold F_X2_keylessSet_B4 F_X2_keylessSet_36
  dsimp only
  rw [e, show s.1 (1 + 1) 3 = cn n from e2]
  by_cases hkn : n ≤ k
  · have ek : k = n := by omega
    rw [if_pos ((cn_le (by omega) (by omega)).mpr hkn)]
    rw [ek] at hb
    refine pk_some (show ∀ i, i < 32 → (btk x1 i = true ↔ klB w n i = true) from fun i hi => ?_)
    rw [hb i hi]
    unfold klB
    rw [decide_eq_true_eq]
  rw [if_neg (fun q => hkn ((cn_le (by omega) (by omega)).mp q)), show (1 + 1 : Nat) = 2 from rfl, V_atG (c := 3) (k := ci 3) H e2 hn (by omega) (by decide) rfl, b1_some, show ixG k 3 = 15 + k from rfl]
  have st : ∀ d : Int32, (∀ i, i < 32 → (btk d i = true ↔ i = k ∧ w (15 + k) = ci (-1))) → ∀ i, i < 32 → (btk (x1 ||| d) i = true ↔ i < k + 1 ∧ w (15 + i) = ci (-1)) := fun d hd i hi => by
    rw [bt_or, Bool.or_eq_true, hb i hi, hd i hi]
    constructor
    · intro z
      rcases z with z | z
      · exact ⟨by have := z.1; omega, z.2⟩
      · exact ⟨by have := z.1; omega, by rw [z.1]; exact z.2⟩
    · intro z
      by_cases ei : i = k
      · exact Or.inr ⟨ei, by rw [← ei]; exact z.2⟩
      · exact Or.inl ⟨by have := z.1; omega, z.2⟩
  by_cases e1 : w (15 + k) = ci (-1)
  · rw [if_pos e1]
    exact pk_some (show ∃ k', _ from ⟨k + 1, by omega, cnu (by omega), st _ (fun i hi => by rw [bt_bit k (by omega) i hi]; exact ⟨fun z => ⟨of_decide_eq_true z, e1⟩, fun z => decide_eq_true z.1⟩)⟩)
  · rw [if_neg e1]
    exact pk_some (show ∃ k', _ from ⟨k + 1, by omega, cnu (by omega), st _ (fun i hi => ⟨fun z => absurd z (bt_0n hi), fun z => absurd z.2 e1⟩)⟩)
theorem V_outSetC {s : mG} {n : Nat} {w : Nat → Int32} (H : TWr 2 11 12 112 ixG s.1 w) (e2 : s.1 2 3 = cn n) (hn : n ≤ 12) : pk (F_X2_outSet 1 s) (fun v => ∀ i, i < 32 → (btk v i = true ↔ i < n ∧ w (3 + i) = ci 1)) := by
  unfold F_X2_outSet F_X2_outSet_L4
  refine pk_whl (fun v => ∃ k, k ≤ n ∧ v.2 = cn k ∧ ∀ i, i < 32 → (btk v.1 i = true ↔ i < k ∧ w (3 + i) = ci 1)) ⟨0, Nat.zero_le _, rfl, fun i hi => ⟨fun q => absurd q (bt_0n hi), fun q => absurd q.1 (by omega)⟩⟩ (fun v hv => ?_)
  obtain ⟨x1, x2⟩ := v
  obtain ⟨k, hk, eo, hbo⟩ := hv
  have e : x2 = cn k := eo
  have hb : ∀ i, i < 32 → (btk x1 i = true ↔ i < k ∧ w (3 + i) = ci 1) := hbo
  unfold F_X2_outSet_B4 F_X2_outSet_31 F_X2_isOut
  dsimp only
  rw [e, show s.1 (1 + 1) 3 = cn n from e2]
  by_cases hkn : n ≤ k
  · have ek : k = n := by omega
    rw [if_pos ((cn_le (by omega) (by omega)).mpr hkn)]
    rw [ek] at hb
    exact pk_some (show ∀ i, i < 32 → (btk x1 i = true ↔ i < n ∧ w (3 + i) = ci 1) from hb)
  rw [if_neg (fun q => hkn ((cn_le (by omega) (by omega)).mp q)), show (1 + 1 : Nat) = 2 from rfl, V_atG (c := 2) (k := ci 2) H e2 hn (by omega) (by decide) rfl, b1_some, show ixG k 2 = 3 + k from rfl]
  have st : ∀ d : Int32, (∀ i, i < 32 → (btk d i = true ↔ i = k ∧ w (3 + k) = ci 1)) → ∀ i, i < 32 → (btk (x1 ||| d) i = true ↔ i < k + 1 ∧ w (3 + i) = ci 1) := fun d hd i hi => by
    rw [bt_or, Bool.or_eq_true, hb i hi, hd i hi]
    constructor
    · intro z
      rcases z with z | z
      · exact ⟨by have := z.1; omega, z.2⟩
      · exact ⟨by have := z.1; omega, by rw [z.1]; exact z.2⟩
    · intro z
      by_cases ei : i = k
      · exact Or.inr ⟨ei, by rw [← ei]; exact z.2⟩
      · exact Or.inl ⟨by have := z.1; omega, z.2⟩
  by_cases e1 : w (3 + k) = ci 1
  · rw [if_pos e1, b1_some, if_neg c1n0]
    exact pk_some (show ∃ k', _ from ⟨k + 1, by omega, cnu (by omega), st _ (fun i hi => by rw [bt_bit k (by omega) i hi]; exact ⟨fun z => ⟨of_decide_eq_true z, e1⟩, fun z => decide_eq_true z.1⟩)⟩)
  · rw [if_neg e1, b1_some, if_pos c0e0]
    exact pk_some (show ∃ k', _ from ⟨k + 1, by omega, cnu (by omega), st _ (fun i hi => ⟨fun z => absurd z (bt_0n hi), fun z => absurd z.2 e1⟩)⟩)
/-- of those without a key, how sure all are out -/
def loN (w : Nat → Int32) (m : Nat) : Nat → Int64
  | 0 => cz 0
  | k + 1 => if w (15 + k) = ci (-1) then loN w m k + (cl 1000000 - sureN w m k) else loN w m k
theorem loN_s {w : Nat → Int32} {m k : Nat} : loN w m (k + 1) = if w (15 + k) = ci (-1) then loN w m k + (cl 1000000 - sureN w m k) else loN w m k := rfl
theorem Sb_up {M N : Int} {x : Int32} {u : Int64} (h : Sb M x u) (k : M ≤ N) : Sb N x u := ⟨h.1, h.2.1, Int.le_trans h.2.2 k⟩
theorem V_koC {a b : mG} {n nc m : Nat} (hI : IM b) (K : HK (b.1 89) n nc a) (h3 : a.1 10 3 = cn m) (hm : m ≤ 6) : pk (F_X0_keylessOut a) (fun τ => τ.1 = (loN (b.1 89) m n / cl 1000000).toInt32) := by
  have hn := K.2.2.1
  unfold F_X0_keylessOut
  refine pk_b1 (V_weigh hI K h3 hm) (fun u qu => ?_)
  obtain ⟨u1, u2⟩ := qu
  have Ku : HK (b.1 89) n nc u := HK_low K (fun j h1 h2 => u2 j (by omega) (by omega) (by omega) (by omega))
  unfold F_X0_keylessOut_L8
  refine pk_whl (fun v => ∃ k : Nat, k ≤ n ∧ v.2.1 = cn k ∧ Sb (k * 1000000) v.1 (loN (b.1 89) m k) ∧ v.2.2 = u) ⟨0, Nat.zero_le _, rfl, Sb_0, rfl⟩ (fun v hv => ?_)
  obtain ⟨x1, x2, s⟩ := v
  obtain ⟨k, hk, q1o, q2o, q3o⟩ := hv
  have q1 : x2 = cn k := q1o
  have q2 : Sb (k * 1000000) x1 (loN (b.1 89) m k) := q2o
  have q3 : s = u := q3o
  unfold F_X0_keylessOut_B8 F_X0_keylessOut_52
  dsimp only
  rw [q1, q3, Ku.2.1]
  by_cases hkn : n ≤ k
  · have ek : k = n := by omega
    rw [if_pos ((cn_le (by omega) (by omega)).mpr hkn)]
    rw [ek] at q2
    exact pk_some (show x1 / ci 1000000 = _ from Sb_div q2 (by omega))
  rw [if_neg (fun q => hkn ((cn_le (by omega) (by omega)).mp q)), V_atG (c := 3) (k := ci 3) Ku.1.1 Ku.2.1 hn (by omega) (by decide) rfl, b1_some, show ixG k 3 = 15 + k from rfl]
  by_cases e1 : b.1 89 (15 + k) = ci (-1)
  · rw [if_pos e1, V_cellJ (j := 76) (k := k) sh76 (by omega) (by decide), b1_some]
    have q4 : Sb 1000000 (ci 1000000 - u.1 76 k) (cl 1000000 - sureN (b.1 89) m k) := Su_co (u1 k (by omega))
    have q5 := Sb_add q2 q4 (by omega)
    rw [show (k : Int) * 1000000 + 1000000 = ((k + 1 : Nat) : Int) * 1000000 by omega] at q5
    exact pk_some (show ∃ k' : Nat, _ from ⟨k + 1, by omega, cnu (by omega), by rw [loN_s, if_pos e1]; exact q5, rfl⟩)
  · rw [if_neg e1]
    exact pk_some (show ∃ k' : Nat, _ from ⟨k + 1, by omega, cnu (by omega), by rw [loN_s, if_neg e1]; exact Sb_up q2 (by omega), rfl⟩)
/-- the reference, all of it -/
def LQq (w : Nat → Int32) (m n : Nat) (x v : Int32) : Prop := (x = 0 → v = cn (cBt (klB w n) n)) ∧ (x = ci 1 → v = (loN w m n / cl 1000000).toInt32) ∧ (¬ x = 0 → ¬ x = ci 1 → v = cn (cBt (koB w n) n))
theorem cBt_k {f : Nat → Bool} : ∀ k, cBt f k ≤ k := by
  intro k
  induction k with
  | zero => exact Nat.le_refl _
  | succ k ih =>
    unfold cBt
    by_cases e : f k = true
    · rw [if_pos e]; omega
    · rw [if_neg e]; omega
theorem V_lackR {b : mG} {n nc m : Nat} {x : Int32} (L : LTy nc (b.1 89)) (V : VIm n (b.1 89)) (g2 : b.1 89 112 = cn n) (hn : n ≤ 12) (hw : b.1 89 115 = cn m) (hm : m ≤ 6) : pk (F_X12_lack_L21 x (ci 0) (ci 0) (cz 0) (ci 0) b) (fun τ => LQq (b.1 89) m n x τ.1) := by
  unfold F_X12_lack_L21
  refine pk_whl (fun v => v.1 = x ∧ ∃ k, k ≤ n ∧ v.2.1 = cn (cBt (klB (b.1 89) n) k) ∧ v.2.2.1 = cn (cBt (koB (b.1 89) n) k) ∧ v.2.2.2.1 = loN (b.1 89) m k ∧ v.2.2.2.2.1 = cn k ∧ ∀ j, j ≠ 96 → j ≠ 97 → v.2.2.2.2.2.1 j = b.1 j) ⟨rfl, 0, Nat.zero_le _, rfl, rfl, rfl, rfl, fun _ _ _ => rfl⟩ (fun v hv => ?_)
  obtain ⟨x1, x2, x3, x4, x6, s⟩ := v
  obtain ⟨q0o, k, hk, q1o, q2o, q3o, q4o, ro⟩ := hv
  have q0 : x1 = x := q0o
  have q1 : x2 = cn (cBt (klB (b.1 89) n) k) := q1o
  have q2 : x3 = cn (cBt (koB (b.1 89) n) k) := q2o
  have q3 : x4 = loN (b.1 89) m k := q3o
  have q4 : x6 = cn k := q4o
  have r : ∀ j, j ≠ 96 → j ≠ 97 → s.1 j = b.1 j := ro
  have e89 : s.1 89 = b.1 89 := r 89 (by decide) (by decide)
  have c1 := cBt_k (f := klB (b.1 89) n) k
  have c2 := cBt_k (f := koB (b.1 89) n) k
  unfold F_X12_lack_B21 F_X12_lack_80
  dsimp only
  rw [q0, q1, q2, q3, q4, e89, g2]
  by_cases hkn : n ≤ k
  · have ek : k = n := by omega
    rw [if_pos ((cn_le (by omega) (by omega)).mpr hkn), ek]
    by_cases hx : x = 0
    · rw [if_pos hx]
      exact pk_some (show (_ → _) ∧ (_ → _) ∧ (_ → _ → _) from ⟨fun _ => rfl, fun q => absurd (hx.symm.trans q) (by decide), fun q => absurd hx q⟩)
    rw [if_neg hx]
    by_cases hx1 : x = ci 1
    · rw [if_pos hx1]
      exact pk_some (show (_ → _) ∧ (_ → _) ∧ (_ → _ → _) from ⟨fun q => absurd q hx, fun _ => rfl, fun _ q => absurd hx1 q⟩)
    · rw [if_neg hx1]
      exact pk_some (show (_ → _) ∧ (_ → _) ∧ (_ → _ → _) from ⟨fun q => absurd q hx, fun q => absurd q hx1, fun _ _ => rfl⟩)
  rw [if_neg (fun q => hkn ((cn_le (by omega) (by omega)).mp q)), show c8 15 + cn k = cn (15 + k) from cn_add (a := 15) (by omega), cn_nat (n := 15 + k) (by omega), show ci 3 + cn k = cn (3 + k) from cn_add (a := 3) (by omega), cn_nat (n := 3 + k) (by omega)]
  refine pk_nn ?_
  have s1 : cBt (klB (b.1 89) n) (k + 1) = cBt (klB (b.1 89) n) k + (if klB (b.1 89) n k = true then 1 else 0) := rfl
  have s2 : cBt (koB (b.1 89) n) (k + 1) = cBt (koB (b.1 89) n) k + (if koB (b.1 89) n k = true then 1 else 0) := rfl
  by_cases e1 : b.1 89 (15 + k) = ci (-1)
  · have b1' : klB (b.1 89) n k = true := decide_eq_true ⟨by omega, e1⟩
    rw [if_pos e1]
    refine pk_nn ?_
    refine pk_b2 (V_sureS L hn (by omega : k < n) hw hm e89) (fun v14 s13 qt => ?_)
    obtain ⟨t1o, t2o, _⟩ := qt
    have t1 : v14 = sureN (b.1 89) m k := t1o
    have t2 : ∀ j, j ≠ 96 → j ≠ 97 → s13.1 j = s.1 j := t2o
    rw [t1]
    rw [if_pos b1'] at s1
    rcases (V.2.2 k (by omega)).1 with e | e
    · have b2' : ¬ koB (b.1 89) n k = true := fun q => by
        have z := (of_decide_eq_true q).2
        rw [e] at z
        exact absurd z (by decide)
      rw [if_neg b2'] at s2
      exact pk_some (show _ ∧ ∃ k', _ from ⟨rfl, k + 1, by omega, by rw [s1]; exact cnu (by omega), by rw [s2, e]; exact Int32.add_zero _, by rw [loN_s, if_pos e1], cnu (by omega), fun j h1 h2 => (t2 j h1 h2).trans (r j h1 h2)⟩)
    · have b2' : koB (b.1 89) n k = true := decide_eq_true ⟨⟨by omega, e1⟩, e⟩
      rw [if_pos b2'] at s2
      exact pk_some (show _ ∧ ∃ k', _ from ⟨rfl, k + 1, by omega, by rw [s1]; exact cnu (by omega), by rw [s2, e]; exact cnu (by omega), by rw [loN_s, if_pos e1], cnu (by omega), fun j h1 h2 => (t2 j h1 h2).trans (r j h1 h2)⟩)
  · have b1' : ¬ klB (b.1 89) n k = true := fun q => e1 (of_decide_eq_true q).2
    have b2' : ¬ koB (b.1 89) n k = true := fun q => e1 (of_decide_eq_true q).1.2
    rw [if_neg b1'] at s1
    rw [if_neg b2'] at s2
    rw [if_neg e1]
    exact pk_some (show _ ∧ ∃ k', _ from ⟨rfl, k + 1, by omega, by rw [s1]; rfl, by rw [s2]; rfl, by rw [loN_s, if_neg e1], cnu (by omega), r⟩)
theorem R_lack {a b : mG} {x : Int32} (hI : IM b) (h : SIM a b) : rel (F_X11_lack x a) (F_X12_lack x b) (fun τ υ => τ.1 = υ.1) := by
  obtain ⟨n, nc, m, K, g2, V, hm, h3, hw⟩ := SIM_S h
  have hn := K.2.2.1
  unfold F_X11_lack F_X12_lack
  rw [F_isIn, b1_some]
  have R := V_lackR (x := x) K.2.2.2.2 V g2 hn hw hm
  by_cases hx : wi x (ci 0) (ci 2) = 0
  · have ny : ∀ c : Nat, c ≤ 2 → ¬ x = cn c := fun c hc e => by
      rw [e] at hx
      have : ∀ c, c ≤ 2 → ¬ wi (cn c) (ci 0) (ci 2) = 0 := by decide
      exact this c hc hx
    rw [if_pos hx, if_neg (show ¬ x = ci 0 from ny 0 (by omega)), if_neg (show ¬ x = ci 1 from ny 1 (by omega)), if_neg (show ¬ x = ci 2 from ny 2 (by omega))]
    exact rel_some rfl
  · obtain ⟨c, hc, ey⟩ := wi_cn (l := 2) (by omega) hx
    rw [if_neg hx]
    rcases (show c = 0 ∨ c = 1 ∨ c = 2 by omega) with e | e | e <;> rw [e] at ey
    · rw [if_pos (show x = ci 0 from ey)]
      refine rel_l1 (V_klSet K.1.1 K.2.1 hn) (fun v3 h3' => ?_)
      rw [mask_of (f := klB (b.1 89) n) hn (fun i hi => decide_eq_false (fun q => absurd q.1 (by omega))) h3', b1_some]
      exact rel_sp R (fun v' qv => show cn (cBt (klB (b.1 89) n) n) = v'.1 from (qv.1 (ey.trans (by decide))).symm)
    · rw [if_neg (show ¬ x = ci 0 by rw [ey]; decide), if_pos (show x = ci 1 from ey)]
      refine rel_l2 (V_koC hI K h3 hm) (fun v s qo => ?_)
      have q : v = (loN (b.1 89) m n / cl 1000000).toInt32 := qo
      exact rel_sp R (fun v' qv => show v = v'.1 from q.trans (qv.2.1 ey).symm)
    · rw [if_neg (show ¬ x = ci 0 by rw [ey]; decide), if_neg (show ¬ x = ci 1 by rw [ey]; decide), if_pos (show x = ci 2 from ey)]
      refine rel_l1 (V_klSet K.1.1 K.2.1 hn) (fun v3 h3' => ?_)
      refine rel_l1 (V_outSetC K.1.1 K.2.1 hn) (fun v4 h4 => ?_)
      rw [mask_of (f := koB (b.1 89) n) hn (fun i hi => decide_eq_false (fun q => absurd q.1.1 (by omega))) (fun i hi => by
        rw [bt_and, Bool.and_eq_true, h3' i hi, h4 i hi]
        unfold klB koB
        rw [decide_eq_true_eq, decide_eq_true_eq]
        exact ⟨fun q => ⟨q.1, q.2.2⟩, fun q => ⟨q.1, q.1.1, q.2⟩⟩), b1_some]
      exact rel_sp R (fun v' qv => show cn (cBt (koB (b.1 89) n) n) = v'.1 from (qv.2.2 (by rw [ey]; decide) (by rw [ey]; decide)).symm)
end
end
