noncomputable section
/-! HOW SURE, on both sides -/
theorem l32 {z : Int64} (h : 0 ≤ z.toInt ∧ z.toInt ≤ 1000000) : z.toInt32.toInt = z.toInt := by
  rw [Int64.toInt_toInt32]
  exact Int.bmod_eq_of_le (by omega) (by omega)
/-- one number, here in 32 and there in 64 bits -/
def Su (x : Int32) (y : Int64) : Prop := y = x.toInt64 ∧ 0 ≤ x.toInt ∧ x.toInt ≤ 1000000
theorem Su_t {x : Int32} {y : Int64} (h : Su x y) : y.toInt = x.toInt := by rw [h.1, Int32.toInt_toInt64]
theorem Su_r {x : Int32} {y : Int64} (h : Su x y) : 0 ≤ y.toInt ∧ y.toInt ≤ 1000000 := by rw [Su_t h]; exact h.2
theorem Su_32 {x : Int32} {y : Int64} (h : Su x y) : y.toInt32 = x := Int32.toInt_inj.mp (by rw [l32 (Su_r h), Su_t h])
theorem Su_of {y : Int64} (h : 0 ≤ y.toInt ∧ y.toInt ≤ 1000000) : Su y.toInt32 y := ⟨Int64.toInt_inj.mp (by rw [Int32.toInt_toInt64, l32 h]), by rw [l32 h]; exact h⟩
theorem x64_sub {x : Int32} (h : 0 ≤ x.toInt ∧ x.toInt ≤ 1000000) : (ci 1000000 - x).toInt64 = cl 1000000 - x.toInt64 := Int64.toInt_inj.mp (by
  rw [Int32.toInt_toInt64, r_sub (by decide : (ci 1000000).toInt = 1000000) (rfl : x.toInt = _) (by omega) (by omega), l_sub (by decide : (cl 1000000).toInt = 1000000) (Int32.toInt_toInt64 x) (by omega) (by omega)])
theorem t64_sub {x : Int32} (h : 1 ≤ x.toInt ∧ x.toInt ≤ 999) : (c16 1000 - x).toInt64 = cl 1000 - x.toInt64 := Int64.toInt_inj.mp (by
  rw [Int32.toInt_toInt64, r_sub (by decide : (c16 1000).toInt = 1000) (rfl : x.toInt = _) (by omega) (by omega), l_sub (by decide : (cl 1000).toInt = 1000) (Int32.toInt_toInt64 x) (by omega) (by omega)])
/-- after one sign -/
def byAw (y p q : Int64) : Int64 := (cl 1000000 * (y * p)) / (y * p + (cl 1000000 - y) * q)
def byS (w : Nat → Int32) (y : Int64) (k : Nat) (c : Int32) : Int64 := if c = ci 1 then byAw y (w (143 + 2 * k)).toInt64 (w (143 + 2 * k + 1)).toInt64 else byAw y (c16 1000 - w (143 + 2 * k)).toInt64 (c16 1000 - w (143 + 2 * k + 1)).toInt64
theorem byA_ok {b : mG} {y p q : Int64} (hI : IM b) (h1 : 0 ≤ y.toInt ∧ y.toInt ≤ 1000000) (h2 : 1 ≤ p.toInt ∧ p.toInt ≤ 999) (h3 : 1 ≤ q.toInt ∧ q.toInt ≤ 999) : ¬ y * p + (cl 1000000 - y) * q = 0 ∧ 0 ≤ (byAw y p q).toInt ∧ (byAw y p q).toInt ≤ 1000000 := by
  obtain ⟨v, e, r⟩ := T_X12_byA (s := b) h1 h2 h3 hI
  unfold F_X12_byA at e
  obtain ⟨hD, e⟩ := m_gn e
  have e := Option.some.inj e
  refine ⟨hD, ?_⟩
  unfold byAw
  rw [e]
  exact r
theorem sg_r {b : mG} {m k : Nat} (hI : IM b) (hw : b.1 89 115 = cn m) (hm : m ≤ 6) (hk : k < m) : (1 ≤ (b.1 89 (143 + 2 * k)).toInt ∧ (b.1 89 (143 + 2 * k)).toInt ≤ 999) ∧ 1 ≤ (b.1 89 (143 + 2 * k + 1)).toInt ∧ (b.1 89 (143 + 2 * k + 1)).toInt ≤ 999 := by
  have W8 := hI.1.2.2.2.2.2.2.2.1
  have e : (b.1 89 115).toInt = m := by rw [hw, t_cn (by omega)]
  exact ⟨W8 (2 * k) (by omega) (by omega), W8 (2 * k + 1) (by omega) (by omega)⟩
theorem byS_r {b : mG} {y : Int64} {m k : Nat} {c : Int32} (hI : IM b) (hw : b.1 89 115 = cn m) (hm : m ≤ 6) (hk : k < m) (hy : 0 ≤ y.toInt ∧ y.toInt ≤ 1000000) : 0 ≤ (byS (b.1 89) y k c).toInt ∧ (byS (b.1 89) y k c).toInt ≤ 1000000 := by
  obtain ⟨r1, r2⟩ := sg_r hI hw hm hk
  unfold byS
  by_cases h : c = ci 1
  · rw [if_pos h]
    exact (byA_ok hI hy (i64_r r1) (i64_r r2)).2
  · rw [if_neg h]
    exact (byA_ok hI hy (i64_r (s1000 r1)) (i64_r (s1000 r2))).2
theorem V_bySignR {b : mG} {y : Int64} {k : Nat} {c : Int32} (hk : k < 6) : pk (F_X12_bySign b y (cn k) c) (fun v => v = byS (b.1 89) y k c) := by
  unfold F_X12_bySign
  rw [show ci 2 * cn k = cn (2 * k) from cn_mul (a := 2) (by omega) (by omega) (by omega), show c16 143 + cn (2 * k) = cn (143 + 2 * k) from cn_add (a := 143) (by omega), show cn (143 + 2 * k) + ci 1 = cn (143 + 2 * k + 1) from cn_add (b := 1) (by omega), cn_nat (n := 143 + 2 * k) (by omega), cn_nat (n := 143 + 2 * k + 1) (by omega)]
  dsimp only
  refine pk_nn (pk_nn ?_)
  unfold F_X12_byA byS
  by_cases h : c = ci 1
  · rw [if_pos h, if_pos h, b1_id]
    exact pk_nn (pk_some rfl)
  · rw [if_neg h, if_neg h, b1_id]
    exact pk_nn (pk_some rfl)
theorem after_70 {a b : mG} {x : Int32} {p q : Int64} (hI : IM b) (hx : 0 ≤ x.toInt ∧ x.toInt ≤ 1000000) (h2 : 1 ≤ p.toInt ∧ p.toInt ≤ 999) (h3 : 1 ≤ q.toInt ∧ q.toInt ≤ 999) : F_X0_sureAfter_70 a x (x.toInt64 * p) ((ci 1000000 - x).toInt64) q = some (byAw x.toInt64 p q).toInt32 := by
  have o := byA_ok hI (i64_r hx) h2 h3
  have z : cz 0 = (0 : Int64) := by decide
  unfold F_X0_sureAfter_70
  rw [x64_sub hx, if_neg (fun e => o.1 (((lg_cmp_eq _ _).mp e).trans z)), if_neg o.1]
  rfl
theorem V_afterC {a b : mG} {x c : Int32} {y : Int64} {m k : Nat} (hI : IM b) (HS : TWr 10 2 6 115 ixS a.1 (b.1 89)) (h3 : a.1 10 3 = cn m) (hm : m ≤ 6) (hk : k < m) (hs : Su x y) (hc : c = ci 0 ∨ c = ci 1) : pk (F_X0_sureAfter a x (cn k) c) (fun u => Su u (byS (b.1 89) y k c)) := by
  have hw : b.1 89 115 = cn m := by
    obtain ⟨_, _, m', _, g3, gc, _⟩ := HS
    rw [gc]; exact g3.symm.trans h3
  obtain ⟨r1, r2⟩ := sg_r hI hw hm hk
  have rr := byS_r (c := c) hI hw hm hk (Su_r hs)
  unfold F_X0_sureAfter
  rw [V_atS (c := 0) (k := ci 0) HS h3 hm hk (by decide) rfl, b1_some, V_atS (c := 1) (k := ci 1) HS h3 hm hk (by decide) rfl, b1_some, show ixS k 0 = 143 + 2 * k from rfl, show ixS k 1 = 143 + 2 * k + 1 from rfl]
  have ey := hs.1
  unfold byS at rr ⊢
  rcases hc with e | e
  · have n1 : ¬ c = ci 1 := by rw [e]; decide
    have n0 : c = 0 := by rw [e]; exact c0e0
    rw [if_neg n1] at rr ⊢
    rw [if_pos n0]
    unfold F_X0_sureAfter_47
    rw [if_pos n0, ← t64_sub r1, ← t64_sub r2, after_70 hI hs.2 (i64_r (s1000 r1)) (i64_r (s1000 r2)), ← ey]
    exact pk_some (Su_of rr)
  · have n0 : ¬ c = 0 := by rw [e]; exact c1n0
    rw [if_pos e] at rr ⊢
    rw [if_neg n0]
    unfold F_X0_sureAfter_47
    rw [if_neg n0, after_70 hI hs.2 (i64_r r1) (i64_r r2), ← ey]
    exact pk_some (Su_of rr)
/-- after the first k signs -/
def sStart (w : Nat → Int32) (g : Nat) : Int64 := (c16 1000 * LVn w g 5).toInt64
def sFold (w : Nat → Int32) (y : Int64) (gl : Nat → Int32) : Nat → Int64
  | 0 => y
  | k + 1 => if gl k = ci (-1) then sFold w y gl k else byS w (sFold w y gl k) k (gl k)
theorem sFold_0 {w : Nat → Int32} {y : Int64} {gl : Nat → Int32} : sFold w y gl 0 = y := rfl
theorem sFold_same {w : Nat → Int32} {y : Int64} {gl gl' : Nat → Int32} : ∀ k, (∀ i, i < k → gl i = gl' i) → sFold w y gl k = sFold w y gl' k := by
  intro k
  induction k with
  | zero => intro _; rfl
  | succ k ih =>
    intro h
    unfold sFold
    rw [ih (fun i hi => h i (by omega)), h k (by omega)]
theorem sStart_u {w : Nat → Int32} {g : Nat} : Su (c16 1000 * LVn w g 5) (sStart w g) := by
  have b := LV_b (w := w) (f := FAc w g (w 0) (w 113) (w (27 + g))) (x := 5) (by decide)
  have b : 0 ≤ (LVn w g 5).toInt ∧ (LVn w g 5).toInt ≤ 1000 := b
  refine ⟨rfl, ?_⟩
  rw [r_mul (by decide : (c16 1000).toInt = 1000) (rfl : (LVn w g 5).toInt = _) (by omega) (by omega)]
  omega
/-- what was seen of a guest -/
def glw (w : Nat → Int32) (g k : Nat) : Int32 := w (39 + 6 * g + k)
theorem V_glance {w : Nat → Int32} {n nc g : Nat} {a : mG} (K : HK w n nc a) (hg : g < n) : pk (F_X0_glanceAt (cn g) a) (fun u => (∀ k, k < 6 → u.1 74 k = glw w g k) ∧ ∀ j, j ≠ 74 → u.1 j = a.1 j) := by
  have hn := K.2.2.1
  unfold F_X0_glanceAt F_X0_glanceAt_L2
  refine pk_whl (fun v => v.1 = cn g ∧ ∃ k, k ≤ 6 ∧ v.2.1 = cn k ∧ (∀ i, i < k → v.2.2.1 74 i = glw w g i) ∧ ∀ j, j ≠ 74 → v.2.2.1 j = a.1 j) ⟨rfl, 0, by omega, rfl, fun i hi => absurd hi (by omega), fun _ _ => rfl⟩ (fun v hv => ?_)
  obtain ⟨x1, x2, s⟩ := v
  obtain ⟨q1o, k, hk, q2o, q3o, ro⟩ := hv
  have q1 : x1 = cn g := q1o
  have q2 : x2 = cn k := q2o
  have q3 : ∀ i, i < k → s.1 74 i = glw w g i := q3o
  have r : ∀ j, j ≠ 74 → s.1 j = a.1 j := ro
  subst q1; subst q2
  unfold F_X0_glanceAt_B2
  dsimp only
  by_cases h6 : 6 ≤ k
  · rw [if_pos ((cn_le (by omega) (by omega)).mpr h6)]
    exact pk_some (show (∀ k, k < 6 → s.1 74 k = glw w g k) ∧ _ from ⟨fun i hi => q3 i (by omega), r⟩)
  · have HG : TWr 2 11 12 112 ixG s.1 w := TWr_same K.1.1 (r 2 (by decide)) (r 3 (by decide)) rfl (fun _ _ _ _ => rfl)
    rw [if_neg (fun q => h6 ((cn_le (by omega) (by omega)).mp q)), show ci 5 + cn k = cn (5 + k) from cn_add (a := 5) (by omega), V_atG (c := 5 + k) HG (by rw [r 2 (by decide)]; exact K.2.1) hn hg (by omega) rfl, b1_some, cn_nat (n := k) (by omega), ixG_5]
    refine pk_nn (pk_some (show _ ∧ ∃ k', _ from ⟨rfl, k + 1, by omega, cnu (by omega), fun i hi => ?_, fun j hj => (mu_row hj).trans (r j hj)⟩))
    show mu s.1 74 k (w (39 + 6 * g + k)) 74 i = glw w g i
    by_cases e : i = k
    · subst e; exact mu_same
    · rw [mu_cell (Or.inr e)]
      exact q3 i (by omega)
theorem V_byGlance {b u : mG} {n nc g m : Nat} {gl : Nat → Int32} (hI : IM b) (K : HK (b.1 89) n nc u) (hg : g < n) (h3 : u.1 10 3 = cn m) (hm : m ≤ 6) (h74 : ∀ k, k < 6 → u.1 74 k = gl k) : pk (F_X0_sureByGlance (cn g) u) (fun τ => Su τ.1 (sFold (b.1 89) (sStart (b.1 89) g) gl m) ∧ ∀ j, j ≠ 69 → j ≠ 70 → τ.2.1 j = u.1 j) := by
  have hw : b.1 89 115 = cn m := by
    obtain ⟨_, _, m', _, g3, gc, _⟩ := K.1.2.2.2.2.1
    rw [gc]; exact g3.symm.trans h3
  unfold F_X0_sureByGlance
  refine pk_b1 (V_faceK K hg) (fun u1 q1 => ?_)
  obtain ⟨k1, r1⟩ := q1
  rw [show ci 5 = cn 5 from rfl]
  refine pk_b2 (V_tellsK (x := 5) (HK_row K (fun j h1 _ _ => r1 j h1)) k1 (by decide)) (fun v5 s4 qt => ?_)
  obtain ⟨t1o, t2o⟩ := qt
  have t1 : v5 = LVn (b.1 89) g 5 := t1o
  have t2 : ∀ j, j ≠ 70 → s4.1 j = u1.1 j := t2o
  have fr : ∀ j, j ≠ 69 → j ≠ 70 → s4.1 j = u.1 j := fun j h1 h2 => (t2 j h2).trans (r1 j h1)
  have e0 : v5 * c16 1000 = c16 1000 * LVn (b.1 89) g 5 := by rw [t1, Int32.mul_comm]
  rw [e0]
  unfold F_X0_sureByGlance_L23
  refine pk_whl (fun v => ∃ k, k ≤ m ∧ v.2.1 = cn k ∧ Su v.1 (sFold (b.1 89) (sStart (b.1 89) g) gl k) ∧ ∀ j, j ≠ 69 → j ≠ 70 → v.2.2.1 j = u.1 j) ⟨0, Nat.zero_le _, rfl, by rw [sFold_0]; exact sStart_u, fr⟩ (fun v hv => ?_)
  obtain ⟨x2, x3, s⟩ := v
  obtain ⟨k, hk, p1o, p2o, ro⟩ := hv
  have p1 : x3 = cn k := p1o
  have p2 : Su x2 (sFold (b.1 89) (sStart (b.1 89) g) gl k) := p2o
  have r : ∀ j, j ≠ 69 → j ≠ 70 → s.1 j = u.1 j := ro
  subst p1
  have s10 : s.1 10 3 = cn m := by rw [r 10 (by decide) (by decide)]; exact h3
  have HS : TWr 10 2 6 115 ixS s.1 (b.1 89) := TWr_same K.1.2.2.2.2.1 (r 10 (by decide) (by decide)) (r 11 (by decide) (by decide)) rfl (fun _ _ _ _ => rfl)
  unfold F_X0_sureByGlance_B23 F_X0_sureByGlance_71 F_X0_sureByGlance_74
  dsimp only
  rw [s10]
  by_cases hkm : m ≤ k
  · have ek : k = m := by omega
    rw [if_pos ((cn_le (by omega) (by omega)).mpr hkm)]
    rw [ek] at p2
    exact pk_some (show Su x2 _ ∧ _ from ⟨p2, r⟩)
  have fs : sFold (b.1 89) (sStart (b.1 89) g) gl (k + 1) = if gl k = ci (-1) then sFold (b.1 89) (sStart (b.1 89) g) gl k else byS (b.1 89) (sFold (b.1 89) (sStart (b.1 89) g) gl k) k (gl k) := rfl
  rw [if_neg (fun q => hkm ((cn_le (by omega) (by omega)).mp q)), V_cellJ sh74 (by omega) (by decide), b1_some, show s.1 74 k = gl k by rw [r 74 (by decide) (by decide)]; exact h74 k (by omega)]
  by_cases e1 : gl k = ci (-1)
  · rw [if_pos e1]
    exact pk_some (show ∃ k', _ from ⟨k + 1, by omega, cnu (by omega), by rw [fs, if_pos e1]; exact p2, r⟩)
  rw [if_neg e1]
  by_cases e2 : gl k = ci 1
  · rw [if_pos e2]
    refine pk_b1 (V_afterC hI HS s10 hm (by omega) p2 (Or.inr rfl)) (fun z hz => ?_)
    exact pk_some (show ∃ k', _ from ⟨k + 1, by omega, cnu (by omega), by rw [fs, if_neg e1, e2]; exact hz, r⟩)
  · rw [if_neg e2]
    refine pk_b1 (V_afterC hI HS s10 hm (by omega) p2 (Or.inl rfl)) (fun z hz => ?_)
    have eq : byS (b.1 89) (sFold (b.1 89) (sStart (b.1 89) g) gl k) k (gl k) = byS (b.1 89) (sFold (b.1 89) (sStart (b.1 89) g) gl k) k (ci 0) := by
      unfold byS
      rw [if_neg e2, if_neg (show ¬ ci 0 = ci 1 by decide)]
    exact pk_some (show ∃ k', _ from ⟨k + 1, by omega, cnu (by omega), by rw [fs, if_neg e1, eq]; exact hz, r⟩)
theorem V_sureC {a b : mG} {n nc g m : Nat} (hI : IM b) (K : HK (b.1 89) n nc a) (hg : g < n) (h3 : a.1 10 3 = cn m) (hm : m ≤ 6) : pk (F_X0_sureOf (cn g) a) (fun τ => Su τ.1 (sFold (b.1 89) (sStart (b.1 89) g) (glw (b.1 89) g) m) ∧ (∀ k, k < 6 → τ.2.1 74 k = glw (b.1 89) g k) ∧ ∀ j, j ≠ 69 → j ≠ 70 → j ≠ 74 → τ.2.1 j = a.1 j) := by
  unfold F_X0_sureOf
  refine pk_b1 (V_glance K hg) (fun u q => ?_)
  obtain ⟨q1, q2⟩ := q
  have Ku : HK (b.1 89) n nc u := by
    obtain ⟨h1, h2, h3', h4, h5⟩ := K
    refine ⟨HSr1_row h1 (fun j _ h2 => q2 j (by omega)) (fun _ _ => rfl), by rw [q2 2 (by decide)]; exact h2, h3', by rw [q2 8 (by decide)]; exact h4, h5⟩
  refine pk_b2 (V_byGlance hI Ku hg (by rw [q2 10 (by decide)]; exact h3) hm q1) (fun v s qt => ?_)
  obtain ⟨t1, t2o⟩ := qt
  have t2 : ∀ j, j ≠ 69 → j ≠ 70 → s.1 j = u.1 j := t2o
  exact pk_some (show Su v _ ∧ _ ∧ _ from ⟨t1, fun k hk => by rw [show s.1 74 = u.1 74 from t2 74 (by decide) (by decide)]; exact q1 k hk, fun j h1 h2 h3 => (t2 j h1 h2).trans (q2 j h3)⟩)
theorem V_sureR {b : mG} {n nc g m : Nat} (L : LTy nc (b.1 89)) (hn : n ≤ 12) (hg : g < n) (hw : b.1 89 115 = cn m) (hm : m ≤ 6) : pk (F_X12_sureOf (cn g) b) (fun τ => τ.1 = sFold (b.1 89) (sStart (b.1 89) g) (glw (b.1 89) g) m ∧ ∀ j, j ≠ 96 → j ≠ 97 → τ.2.1 j = b.1 j) := by
  unfold F_X12_sureOf
  rw [show c8 25 = cn (20 + 5) by decide]
  refine pk_b2 (V_saysNow (x := 5) L (by omega : g < 12) (by omega)) (fun v3 s2 qt => ?_)
  obtain ⟨t1o, t2o⟩ := qt
  have t1 : v3 = LVn (b.1 89) g 5 := t1o
  have t2 : ∀ j, j ≠ 96 → j ≠ 97 → s2.1 j = b.1 j := t2o
  dsimp only
  rw [t1]
  unfold F_X12_sureOf_L16
  refine pk_whl (fun v => v.1 = cn g ∧ ∃ k, k ≤ m ∧ v.2.2.1 = cn k ∧ v.2.1 = sFold (b.1 89) (sStart (b.1 89) g) (glw (b.1 89) g) k ∧ ∀ j, j ≠ 96 → j ≠ 97 → v.2.2.2.1 j = b.1 j) ⟨rfl, 0, Nat.zero_le _, rfl, rfl, t2⟩ (fun v hv => ?_)
  obtain ⟨x1, x2, x4, s⟩ := v
  obtain ⟨p0o, k, hk, p1o, p2o, ro⟩ := hv
  have p0 : x1 = cn g := p0o
  have p1 : x4 = cn k := p1o
  have p2 : x2 = sFold (b.1 89) (sStart (b.1 89) g) (glw (b.1 89) g) k := p2o
  have r : ∀ j, j ≠ 96 → j ≠ 97 → s.1 j = b.1 j := ro
  subst p0; subst p1; subst p2
  have e89 : s.1 89 = b.1 89 := r 89 (by decide) (by decide)
  unfold F_X12_sureOf_B16 F_X12_sureOf_70
  dsimp only
  rw [e89, hw]
  by_cases hkm : m ≤ k
  · have ek : k = m := by omega
    rw [if_pos ((cn_le (by omega) (by omega)).mpr hkm)]
    exact pk_some (show sFold (b.1 89) (sStart (b.1 89) g) (glw (b.1 89) g) k = sFold (b.1 89) (sStart (b.1 89) g) (glw (b.1 89) g) m ∧ _ from ⟨by rw [ek], r⟩)
  have fs : sFold (b.1 89) (sStart (b.1 89) g) (glw (b.1 89) g) (k + 1) = if glw (b.1 89) g k = ci (-1) then sFold (b.1 89) (sStart (b.1 89) g) (glw (b.1 89) g) k else byS (b.1 89) (sFold (b.1 89) (sStart (b.1 89) g) (glw (b.1 89) g) k) k (glw (b.1 89) g k) := rfl
  rw [if_neg (fun q => hkm ((cn_le (by omega) (by omega)).mp q)), ei_G (by omega), cn_nat (n := 39 + 6 * g + k) (by omega), show b.1 89 (39 + 6 * g + k) = glw (b.1 89) g k from rfl]
  refine pk_nn ?_
  by_cases e1 : glw (b.1 89) g k = ci (-1)
  · rw [if_pos e1]
    exact pk_some (show _ ∧ ∃ k', _ from ⟨rfl, k + 1, by omega, cnu (by omega), by rw [fs, if_pos e1], r⟩)
  rw [if_neg e1]
  refine pk_nn (pk_b1 (V_bySignR (by omega : k < 6)) (fun z hz => ?_))
  rw [e89] at hz
  exact pk_some (show _ ∧ ∃ k', _ from ⟨rfl, k + 1, by omega, cnu (by omega), by rw [fs, if_neg e1]; exact hz, r⟩)
/-- what a thinking call knows -/
theorem SIM_S {a b : mG} (h : SIM a b) : ∃ n nc m, HK (b.1 89) n nc a ∧ b.1 89 112 = cn n ∧ VIm n (b.1 89) ∧ m ≤ 6 ∧ a.1 10 3 = cn m ∧ b.1 89 115 = cn m := by
  obtain ⟨n, nc, K, g2, V⟩ := SIM_K h
  obtain ⟨_, _, m, hm, g3, gc, _⟩ := K.1.2.2.2.2.1
  exact ⟨n, nc, m, K, g2, V, hm, g3, gc⟩
theorem R_of {a b : mG} {x y : Int32} (hI : IM b) (h : SIM a b) : rel (F_X11_of x y a) (F_X12_of x y b) (fun τ υ => τ.1 = υ.1) := by
  obtain ⟨n, nc, m, K, g2, V, hm, h3, hw⟩ := SIM_S h
  have hn := K.2.2.1
  unfold F_X11_of F_X12_of
  rw [V_isGuest, V_isGuestR g2 hn, b1_some, b1_some, show a.1 (1 + 1) 3 = cn n from K.2.1]
  refine rel_ifs Iff.rfl (fun _ => rel_some rfl) (fun hx => ?_)
  obtain ⟨g, hg, ex⟩ := ig_cn (by omega) hx
  subst ex
  rw [V_within, b1_some]
  dsimp only
  by_cases hy : wi y (ci 0) (ci 4) = 0
  · have ny : ∀ c : Nat, c ≤ 4 → ¬ y = cn c := fun c hc e => by
      rw [e] at hy
      have : ∀ c, c ≤ 4 → ¬ wi (cn c) (ci 0) (ci 4) = 0 := by decide
      exact this c hc hy
    rw [if_pos hy, if_neg (show ¬ y = ci 0 from ny 0 (by omega)), if_neg (show ¬ y = ci 1 from ny 1 (by omega)), if_neg (show ¬ y = ci 2 from ny 2 (by omega)), if_neg (show ¬ y = ci 3 from ny 3 (by omega)), if_neg (show ¬ y = ci 4 from ny 4 (by omega))]
    by_cases h5 : y = ci 5
    · rw [if_pos h5, if_pos h5]
      refine rel_b2 (rel_pk (R := fun τ υ => Su τ.1 υ.1) (V_sureC hI K hg h3 hm) (V_sureR K.2.2.2.2 hn hg hw hm) (fun u v p q => by rw [q.1]; exact p.1)) (fun u u' v v' e => ?_)
      have e : Su u v := e
      exact rel_some (show u = v.toInt32 from (Su_32 e).symm)
    rw [if_neg h5, if_neg h5, V_within, F_isIn, b1_some, b1_some]
    refine rel_ifs Iff.rfl (fun _ => rel_some rfl) (fun hz => ?_)
    obtain ⟨z, hz6, ez⟩ : ∃ z : Nat, z < 6 ∧ y = cn (6 + z) := by
      obtain ⟨z1, z2⟩ := wi_f hz
      rw [show (c8 6).toInt = 6 by decide] at z1
      rw [show (c8 11).toInt = 11 by decide] at z2
      exact ⟨y.toInt.toNat - 6, by omega, by rw [show 6 + (y.toInt.toNat - 6) = y.toInt.toNat by omega]; exact cnof (by omega)⟩
    rw [show y - c8 6 = cn z by rw [ez, show c8 6 = cn 6 by decide, cn_sub (by omega) (by omega)]; congr 1; omega, show (c8 20 + y) - c8 6 = cn (20 + z) by rw [ez, show c8 20 = cn 20 by decide, show c8 6 = cn 6 by decide, cn_add (by omega), cn_sub (by omega) (by omega)]; congr 1; omega]
    refine rel_l1 (V_faceK K hg) (fun u qu => ?_)
    refine rel_b2 (rel_pk (R := fun τ υ => τ.1 = υ.1) (V_tellsK (x := z) (HK_row K (fun j h1 _ _ => qu.2 j h1)) qu.1 hz6) (V_saysNow K.2.2.2.2 (by omega : g < 12) hz6) (fun u v p q => p.1.trans q.1.symm)) (fun u u' v v' e => rel_some e)
  · obtain ⟨c, hc, ey⟩ := wi_cn (l := 4) (by omega) hy
    subst ey
    rw [if_neg hy, V_atG (c := c) K.1.1 K.2.1 hn hg (by omega) rfl, b1_some, show c8 119 + cn g = cn (119 + g) from cn_add (a := 119) (by omega), show c16 131 + cn g = cn (131 + g) from cn_add (a := 131) (by omega), show ci 3 + cn g = cn (3 + g) from cn_add (a := 3) (by omega), show c8 15 + cn g = cn (15 + g) from cn_add (a := 15) (by omega), show c8 27 + cn g = cn (27 + g) from cn_add (a := 27) (by omega), cn_nat (n := 119 + g) (by omega), cn_nat (n := 131 + g) (by omega), cn_nat (n := 3 + g) (by omega), cn_nat (n := 15 + g) (by omega), cn_nat (n := 27 + g) (by omega)]
    rcases (show c = 0 ∨ c = 1 ∨ c = 2 ∨ c = 3 ∨ c = 4 by omega) with e | e | e | e | e <;> subst e
    · rw [if_pos (show cn 0 = ci 0 from rfl)]
      exact rel_rg (rel_some rfl)
    · rw [if_neg (show ¬ cn 1 = ci 0 by decide), if_pos (show cn 1 = ci 1 from rfl)]
      exact rel_rg (rel_some rfl)
    · rw [if_neg (show ¬ cn 2 = ci 0 by decide), if_neg (show ¬ cn 2 = ci 1 by decide), if_pos (show cn 2 = ci 2 from rfl)]
      exact rel_rg (rel_some rfl)
    · rw [if_neg (show ¬ cn 3 = ci 0 by decide), if_neg (show ¬ cn 3 = ci 1 by decide), if_neg (show ¬ cn 3 = ci 2 by decide), if_pos (show cn 3 = ci 3 from rfl)]
      exact rel_rg (rel_some rfl)
    · rw [if_neg (show ¬ cn 4 = ci 0 by decide), if_neg (show ¬ cn 4 = ci 1 by decide), if_neg (show ¬ cn 4 = ci 2 by decide), if_neg (show ¬ cn 4 = ci 3 by decide), if_pos (show cn 4 = ci 4 from rfl)]
      exact rel_rg (rel_some rfl)
end
