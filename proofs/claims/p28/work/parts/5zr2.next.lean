noncomputable section
/-! WHICH SIGN NEXT -/
/-- the chance to see it -/
def sgW (w : Nat → Int32) (y : Int64) (k : Nat) : Int64 := ((y * (w (143 + 2 * k)).toInt64) + ((cl 1000000 - y) * (w (143 + 2 * k + 1)).toInt64)) / cl 1000
theorem sg_i {X P Q : Int} (h0 : 0 ≤ X) (h1 : X ≤ 1000000) (p0 : 0 ≤ P) (p1 : P ≤ 1000) (q0 : 0 ≤ Q) (q1 : Q ≤ 1000) : ∃ A B : Int, X * P = A ∧ (1000000 - X) * Q = B ∧ (0 ≤ A ∧ A < 2147483648) ∧ (0 ≤ B ∧ B < 2147483648) ∧ (0 ≤ A + B ∧ A + B < 2147483648) ∧ 0 ≤ (A + B) / 1000 ∧ (A + B) / 1000 ≤ 1000000 := by
  have a0 : 0 ≤ X * P := Int.mul_nonneg h0 p0
  have a1 : X * P ≤ X * 1000 := Int.mul_le_mul_of_nonneg_left p1 h0
  have d0 : 0 ≤ (1000000 - X) * Q := Int.mul_nonneg (by omega) q0
  have d1 : (1000000 - X) * Q ≤ (1000000 - X) * 1000 := Int.mul_le_mul_of_nonneg_left q1 (by omega)
  generalize X * P = A at a0 a1
  generalize (1000000 - X) * Q = B at d0 d1
  exact ⟨A, B, rfl, rfl, ⟨a0, by omega⟩, ⟨d0, by omega⟩, ⟨by omega, by omega⟩, by omega, by omega⟩
theorem sg_m {y p q : Int64} (hy : 0 ≤ y.toInt ∧ y.toInt ≤ 1000000) (hp : 0 ≤ p.toInt ∧ p.toInt ≤ 1000) (hq : 0 ≤ q.toInt ∧ q.toInt ≤ 1000) : 0 ≤ (((y * p) + ((cl 1000000 - y) * q)) / cl 1000).toInt ∧ (((y * p) + ((cl 1000000 - y) * q)) / cl 1000).toInt ≤ 1000000 := by
  obtain ⟨A, B, hA, hB, ra, rb, rc, d1, d2⟩ := sg_i hy.1 hy.2 hp.1 hp.2 hq.1 hq.2
  have s1 : (cl 1000000 - y).toInt = 1000000 - y.toInt := l_sub (by decide : (cl 1000000).toInt = 1000000) rfl (by omega) (by omega)
  have aa := (lo32 ra).2
  have bb := (lo32 rb).2
  have cc := (lo32 rc).2
  have c1 : (y * p).toInt = A := by
    rw [← hA] at aa ⊢
    exact l_mul rfl rfl aa.1 aa.2
  have c2 : ((cl 1000000 - y) * q).toInt = B := by
    rw [← hB] at bb ⊢
    exact l_mul s1 rfl bb.1 bb.2
  have c3 : ((y * p) + ((cl 1000000 - y) * q)).toInt = A + B := l_add c1 c2 cc.1 cc.2
  have f1 : (((y * p) + ((cl 1000000 - y) * q)) / cl 1000).toInt = (A + B) / 1000 := l_div c3 (by decide : (cl 1000).toInt = 1000) rc.1 (by decide) cc.2
  rw [f1]
  exact ⟨d1, d2⟩
theorem sgW_r {b : mG} {y : Int64} {m k : Nat} (hI : IM b) (hw : b.1 89 115 = cn m) (hm : m ≤ 6) (hk : k < m) (hy : 0 ≤ y.toInt ∧ y.toInt ≤ 1000000) : 0 ≤ (sgW (b.1 89) y k).toInt ∧ (sgW (b.1 89) y k).toInt ≤ 1000000 := by
  obtain ⟨r1, r2⟩ := sg_r hI hw hm hk
  have p1 := i64_r r1
  have p2 := i64_r r2
  exact sg_m hy ⟨Int.le_trans (by decide) p1.1, Int.le_trans p1.2 (by decide)⟩ ⟨Int.le_trans (by decide) p2.1, Int.le_trans p2.2 (by decide)⟩
theorem V_seeC {a b : mG} {x : Int32} {y : Int64} {m k : Nat} (hI : IM b) (HS : TWr 10 2 6 115 ixS a.1 (b.1 89)) (h3 : a.1 10 3 = cn m) (hw : b.1 89 115 = cn m) (hm : m ≤ 6) (hk : k < m) (hs : Su x y) : pk (F_X0_chanceToSee a x (cn k)) (fun v => Su v (sgW (b.1 89) y k)) := by
  have rr := sgW_r hI hw hm hk (Su_r hs)
  unfold F_X0_chanceToSee
  rw [V_atS (c := 0) (k := ci 0) HS h3 hm hk (by decide) rfl, b1_some, V_atS (c := 1) (k := ci 1) HS h3 hm hk (by decide) rfl, b1_some, show ixS k 0 = 143 + 2 * k from rfl, show ixS k 1 = 143 + 2 * k + 1 from rfl, x64_sub hs.2, ← hs.1]
  exact pk_some (Su_of rr)
theorem V_seeR {b : mG} {y : Int64} {k : Nat} (hk : k < 6) : pk (F_X12_seeing b y (cn k)) (fun v => v = sgW (b.1 89) y k) := by
  unfold F_X12_seeing
  rw [show ci 2 * cn k = cn (2 * k) from cn_mul (a := 2) (by omega) (by omega) (by omega), show c16 143 + cn (2 * k) = cn (143 + 2 * k) from cn_add (a := 143) (by omega), show cn (143 + 2 * k) + ci 1 = cn (143 + 2 * k + 1) from cn_add (b := 1) (by omega), cn_nat (n := 143 + 2 * k) (by omega), cn_nat (n := 143 + 2 * k + 1) (by omega)]
  exact pk_nn (pk_nn (pk_some rfl))
/-- the surer of the two -/
def sur (z : Int64) : Int64 := if lg_cmp z (cl 1000000 - z) ≤ 0 then cl 1000000 - z else z
theorem lmax_sur {z : Int64} : lmax z (cl 1000000 - z) = sur z := by
  unfold sur
  show (if cl 1000000 - z < z then z else cl 1000000 - z) = _
  by_cases h : z ≤ cl 1000000 - z
  · rw [if_pos ((lg_cmp_le _ _).mpr h), if_neg (fun q => by
      rw [Int64.lt_iff_toInt_lt] at q
      rw [Int64.le_iff_toInt_le] at h
      exact absurd q (Int.not_lt.mpr h))]
  · rw [if_neg (fun q => h ((lg_cmp_le _ _).mp q)), if_pos (by
      rw [Int64.le_iff_toInt_le] at h
      rw [Int64.lt_iff_toInt_lt]
      exact Int.not_le.mp h)]
def wN (w : Nat → Int32) (y : Int64) (k : Nat) : Int64 := (sgW w y k * sur (byS w y k (ci 1))) + ((cl 1000000 - sgW w y k) * sur (byS w y k (ci 0)))
theorem V_worthC {a b : mG} {x : Int32} {y : Int64} {m k : Nat} (hI : IM b) (HS : TWr 10 2 6 115 ixS a.1 (b.1 89)) (h3 : a.1 10 3 = cn m) (hw : b.1 89 115 = cn m) (hm : m ≤ 6) (hk : k < m) (hs : Su x y) : pk (F_X0_surenessBy a x (cn k)) (fun v => v = wN (b.1 89) y k) := by
  unfold F_X0_surenessBy
  refine pk_b1 (V_seeC hI HS h3 hw hm hk hs) (fun v2 h2 => ?_)
  refine pk_b1 (V_afterC hI HS h3 hm hk hs (Or.inr rfl)) (fun v4 h4 => ?_)
  refine pk_b1 (V_afterC hI HS h3 hm hk hs (Or.inl rfl)) (fun v6 h6 => ?_)
  rw [x64_sub h2.2, ← h2.1, ← h4.1, ← h6.1, lmax_sur, lmax_sur]
  exact pk_some rfl
theorem V_surer {s : mG} {z : Int64} : F_X12_surer s z = some (sur z) := by
  unfold F_X12_surer sur
  by_cases h : lg_cmp z (cl 1000000 - z) ≤ 0
  · rw [if_pos h, if_pos h]
  · rw [if_neg h, if_neg h]
theorem V_worthR {b : mG} {y : Int64} {k : Nat} (hk : k < 6) : pk (F_X12_worthOf b y (cn k)) (fun v => v = wN (b.1 89) y k) := by
  unfold F_X12_worthOf
  refine pk_b1 (V_seeR hk) (fun v2 h2 => ?_)
  refine pk_b1 (V_bySignR hk) (fun v4 h4 => ?_)
  rw [V_surer, b1_some]
  refine pk_b1 (V_bySignR hk) (fun v8 h8 => ?_)
  rw [V_surer, b1_some, h2, h4, h8]
  exact pk_some rfl
/-- the best of the first k that stand open -/
def bsN (f : Nat → Int64) (q : Nat → Int32) : Nat → Int32 × Int64
  | 0 => (ci (-1), cl (-1))
  | k + 1 => if q k = ci (-1) ∧ (bsN f q k).2.toInt < (f k).toInt then (cn k, f k) else bsN f q k
theorem bsN_s {f : Nat → Int64} {q : Nat → Int32} {k : Nat} : bsN f q (k + 1) = if q k = ci (-1) ∧ (bsN f q k).2.toInt < (f k).toInt then (cn k, f k) else bsN f q k := rfl
theorem V_bestC {a b : mG} {x : Int32} {y : Int64} {m : Nat} {q : Nat → Int32} (hI : IM b) (HS : TWr 10 2 6 115 ixS a.1 (b.1 89)) (h3 : a.1 10 3 = cn m) (hw : b.1 89 115 = cn m) (hm : m ≤ 6) (hs : Su x y) (h74 : ∀ k, k < 6 → a.1 74 k = q k) : pk (F_X0_bestSign a x) (fun v => v = (bsN (wN (b.1 89) y) q m).1) := by
  unfold F_X0_bestSign F_X0_bestSign_L9
  refine pk_whl (fun v => v.1 = x ∧ ∃ k, k ≤ m ∧ v.2.1 = (bsN (wN (b.1 89) y) q k).1 ∧ v.2.2.1 = (bsN (wN (b.1 89) y) q k).2 ∧ v.2.2.2 = cn k) ⟨rfl, 0, Nat.zero_le _, rfl, rfl, rfl⟩ (fun v hv => ?_)
  obtain ⟨x1, x2, x3, x5⟩ := v
  obtain ⟨q0o, k, hk, q1o, q2o, q3o⟩ := hv
  have q0 : x1 = x := q0o
  have q1 : x2 = (bsN (wN (b.1 89) y) q k).1 := q1o
  have q2 : x3 = (bsN (wN (b.1 89) y) q k).2 := q2o
  have q3 : x5 = cn k := q3o
  unfold F_X0_bestSign_B9 F_X0_bestSign_59
  dsimp only
  rw [q0, q1, q2, q3, h3]
  by_cases hkm : m ≤ k
  · have ek : k = m := by omega
    rw [if_pos ((cn_le (by omega) (by omega)).mpr hkm), ek]
    exact pk_some (show (bsN (wN (b.1 89) y) q m).1 = _ from rfl)
  rw [if_neg (fun z => hkm ((cn_le (by omega) (by omega)).mp z))]
  refine pk_b1 (V_worthC hI HS h3 hw hm (by omega : k < m) hs) (fun v3 hv3 => ?_)
  rw [V_cellJ (j := 74) (k := k) sh74 (by omega) (by decide), b1_some, h74 k (by omega), hv3]
  by_cases e1 : q k = ci (-1)
  · rw [if_pos e1]
    by_cases e2 : (bsN (wN (b.1 89) y) q k).2.toInt < (wN (b.1 89) y k).toInt
    · rw [if_neg (fun z => by
        have z := (lg_cmp_le _ _).mp z
        rw [Int64.le_iff_toInt_le] at z
        exact absurd e2 (Int.not_lt.mpr z))]
      exact pk_some (show _ ∧ ∃ k', _ from ⟨rfl, k + 1, by omega, by rw [bsN_s, if_pos ⟨e1, e2⟩], by rw [bsN_s, if_pos ⟨e1, e2⟩], cnu (by omega)⟩)
    · rw [if_pos ((lg_cmp_le _ _).mpr (Int64.le_iff_toInt_le.mpr (Int.not_lt.mp e2)))]
      exact pk_some (show _ ∧ ∃ k', _ from ⟨rfl, k + 1, by omega, by rw [bsN_s, if_neg (fun z => e2 z.2)], by rw [bsN_s, if_neg (fun z => e2 z.2)], cnu (by omega)⟩)
  · rw [if_neg e1]
    exact pk_some (show _ ∧ ∃ k', _ from ⟨rfl, k + 1, by omega, by rw [bsN_s, if_neg (fun z => e1 z.1)], by rw [bsN_s, if_neg (fun z => e1 z.1)], cnu (by omega)⟩)
/-- the signs looked at, as bits -/
theorem lo6 {v : Int32} (h : ∀ i, i < 32 → btk v i = true → i < 6) : ∃ y, y < 64 ∧ v = cn y := by
  have hm : v.toBitVec.toNat < 2 ^ 6 := Nat.lt_pow_two_of_testBit _ (fun i hi => by
    by_cases hi2 : i < 32
    · cases e : Nat.testBit v.toBitVec.toNat i with
      | false => rfl
      | true => exact absurd (h i hi2 e) (by omega)
    · exact BitVec.getLsbD_of_ge v.toBitVec i (by omega))
  have hm : v.toBitVec.toNat < 64 := hm
  refine ⟨v.toBitVec.toNat, hm, Int32.toBitVec_inj.mp (BitVec.eq_of_toNat_eq ?_)⟩
  show _ = (BitVec.ofNat 32 v.toBitVec.toNat).toNat
  rw [BitVec.toNat_ofNat]
  omega
theorem sr_6 : ∀ y, y < 64 → ∀ k, k < 6 → ((cn y >>> (cn k &&& 31)) &&& ci 1 = ci 1 ↔ btk (cn y) k = true) := by decide +kernel
def LkB (q : Nat → Int32) (k : Nat) (v : Int32) : Prop := ∀ i, i < 32 → (btk v i = true ↔ i < k ∧ ¬ q i = ci (-1))
theorem V_looked {b s : mG} {n g m : Nat} (hn : n ≤ 12) (hg : g < n) (hw : b.1 89 115 = cn m) (hm : m ≤ 6) (e89 : s.1 89 = b.1 89) : pk (F_X12_lookedAt s (cn g)) (LkB (glw (b.1 89) g) m) := by
  unfold F_X12_lookedAt F_X12_lookedAt_L4
  refine pk_whl (fun v => v.1 = cn g ∧ ∃ k, k ≤ m ∧ LkB (glw (b.1 89) g) k v.2.1 ∧ v.2.2 = cn k) ⟨rfl, 0, Nat.zero_le _, fun i hi => ⟨fun q => absurd q (bt_0n hi), fun q => absurd q.1 (by omega)⟩, rfl⟩ (fun v hv => ?_)
  obtain ⟨x1, x2, x3⟩ := v
  obtain ⟨q0o, k, hk, q1o, q2o⟩ := hv
  have q0 : x1 = cn g := q0o
  have q1 : LkB (glw (b.1 89) g) k x2 := q1o
  have q2 : x3 = cn k := q2o
  unfold F_X12_lookedAt_B4 F_X12_lookedAt_41
  dsimp only
  rw [q0, q2, e89, hw]
  by_cases hkm : m ≤ k
  · have ek : k = m := by omega
    rw [if_pos ((cn_le (by omega) (by omega)).mpr hkm)]
    rw [ek] at q1
    exact pk_some (show LkB _ m x2 from q1)
  rw [if_neg (fun z => hkm ((cn_le (by omega) (by omega)).mp z)), ei_G (by omega), cn_nat (n := 39 + 6 * g + k) (by omega), show b.1 89 (39 + 6 * g + k) = glw (b.1 89) g k from rfl]
  refine pk_nn ?_
  have st : ∀ d : Int32, (∀ i, i < 32 → (btk d i = true ↔ i = k ∧ ¬ glw (b.1 89) g k = ci (-1))) → LkB (glw (b.1 89) g) (k + 1) (x2 ||| d) := fun d hd i hi => by
    rw [bt_or, Bool.or_eq_true, q1 i hi, hd i hi]
    constructor
    · intro z
      rcases z with z | z
      · exact ⟨by have := z.1; omega, z.2⟩
      · exact ⟨by have := z.1; omega, by rw [z.1]; exact z.2⟩
    · intro z
      by_cases ei : i = k
      · exact Or.inr ⟨ei, by rw [← ei]; exact z.2⟩
      · exact Or.inl ⟨by have := z.1; omega, z.2⟩
  by_cases e1 : glw (b.1 89) g k = ci (-1)
  · rw [if_pos e1]
    exact pk_some (show _ ∧ ∃ k', _ from ⟨rfl, k + 1, by omega, st _ (fun i hi => ⟨fun z => absurd z (bt_0n hi), fun z => absurd e1 z.2⟩), cnu (by omega)⟩)
  · rw [if_neg e1]
    exact pk_some (show _ ∧ ∃ k', _ from ⟨rfl, k + 1, by omega, st _ (fun i hi => by rw [bt_bit k (by omega) i hi]; exact ⟨fun z => ⟨of_decide_eq_true z, e1⟩, fun z => decide_eq_true z.1⟩), cnu (by omega)⟩)
theorem V_nextR {b s : mG} {y : Int64} {m : Nat} {q : Nat → Int32} {v : Int32} (hw : b.1 89 115 = cn m) (hm : m ≤ 6) (e89 : s.1 89 = b.1 89) (hv : LkB q m v) : pk (F_X12_nextOf s y v) (fun u => u = (bsN (wN (b.1 89) y) q m).1) := by
  obtain ⟨z, hz, ez⟩ := lo6 (v := v) (fun i hi h => by have := ((hv i hi).mp h).1; omega)
  unfold F_X12_nextOf F_X12_nextOf_L11
  refine pk_whl (fun w => w.1 = y ∧ w.2.1 = v ∧ ∃ k, k ≤ m ∧ w.2.2.1 = (bsN (wN (b.1 89) y) q k).1 ∧ w.2.2.2.1 = (bsN (wN (b.1 89) y) q k).2 ∧ w.2.2.2.2 = cn k) ⟨rfl, rfl, 0, Nat.zero_le _, rfl, rfl, rfl⟩ (fun w hw2 => ?_)
  obtain ⟨x1, x3, x4, x5, x7⟩ := w
  obtain ⟨q0o, q1o, k, hk, q2o, q3o, q4o⟩ := hw2
  have q0 : x1 = y := q0o
  have q1 : x3 = v := q1o
  have q2 : x4 = (bsN (wN (b.1 89) y) q k).1 := q2o
  have q3 : x5 = (bsN (wN (b.1 89) y) q k).2 := q3o
  have q4 : x7 = cn k := q4o
  unfold F_X12_nextOf_B11 F_X12_nextOf_62
  dsimp only
  rw [q0, q1, q2, q3, q4, e89, hw]
  by_cases hkm : m ≤ k
  · have ek : k = m := by omega
    rw [if_pos ((cn_le (by omega) (by omega)).mpr hkm), ek]
    exact pk_some (show (bsN (wN (b.1 89) y) q m).1 = _ from rfl)
  rw [if_neg (fun z => hkm ((cn_le (by omega) (by omega)).mp z))]
  have bit : (v >>> (cn k &&& 31)) &&& ci 1 = ci 1 ↔ ¬ q k = ci (-1) := by
    rw [ez, sr_6 z hz k (by omega), ← ez, hv k (by omega)]
    exact ⟨fun h => h.2, fun h => ⟨by omega, h⟩⟩
  by_cases e1 : q k = ci (-1)
  · rw [if_neg (fun h => bit.mp h e1)]
    refine pk_b1 (V_worthR (by omega : k < 6)) (fun v4 h4 => ?_)
    rw [e89] at h4
    rw [h4]
    by_cases e2 : (bsN (wN (b.1 89) y) q k).2.toInt < (wN (b.1 89) y k).toInt
    · rw [if_pos ((lg_cmp_gt _ _).mpr (Int64.lt_iff_toInt_lt.mpr e2))]
      refine pk_b1 (V_worthR (by omega : k < 6)) (fun v7 h7 => ?_)
      rw [e89] at h7
      rw [h7]
      exact pk_some (show _ ∧ _ ∧ ∃ k', _ from ⟨rfl, rfl, k + 1, by omega, by rw [bsN_s, if_pos ⟨e1, e2⟩], by rw [bsN_s, if_pos ⟨e1, e2⟩], cnu (by omega)⟩)
    · rw [if_neg (fun h => e2 (Int64.lt_iff_toInt_lt.mp ((lg_cmp_gt _ _).mp h)))]
      exact pk_some (show _ ∧ _ ∧ ∃ k', _ from ⟨rfl, rfl, k + 1, by omega, by rw [bsN_s, if_neg (fun z => e2 z.2)], by rw [bsN_s, if_neg (fun z => e2 z.2)], cnu (by omega)⟩)
  · rw [if_pos (bit.mpr e1)]
    exact pk_some (show _ ∧ _ ∧ ∃ k', _ from ⟨rfl, rfl, k + 1, by omega, by rw [bsN_s, if_neg (fun z => e1 z.1)], by rw [bsN_s, if_neg (fun z => e1 z.1)], cnu (by omega)⟩)
theorem V_signC {a b : mG} {n nc g m : Nat} (hI : IM b) (K : HK (b.1 89) n nc a) (hg : g < n) (h3 : a.1 10 3 = cn m) (hw : b.1 89 115 = cn m) (hm : m ≤ 6) : pk (F_X0_signAt (cn g) (ci 0) a) (fun τ => τ.1 = (bsN (wN (b.1 89) (sureN (b.1 89) m g)) (glw (b.1 89) g) m).1) := by
  unfold F_X0_signAt
  refine pk_b1 (V_glance K hg) (fun u qu => ?_)
  obtain ⟨u1, u2⟩ := qu
  have Ku : HK (b.1 89) n nc u := HK_low K (fun j _ h2 => u2 j (by omega))
  have e10 : u.1 10 3 = cn m := by rw [u2 10 (by decide)]; exact h3
  unfold F_X0_signAt_L7
  refine pk_whl (fun v => v = (cn g, ci 0, ci 0, u)) rfl (fun v hv => ?_)
  rw [hv]
  unfold F_X0_signAt_B7 F_X0_signAt_39
  dsimp only
  rw [if_neg (show ¬ c8 6 ≤ ci 0 by decide)]
  refine pk_b2 (V_byGlance hI Ku hg e10 hm u1) (fun v6 t qt => ?_)
  obtain ⟨t1o, t2o⟩ := qt
  have t1 : Su v6 (sureN (b.1 89) m g) := t1o
  have t2 : ∀ j, j ≠ 69 → j ≠ 70 → t.1 j = u.1 j := t2o
  have HS : TWr 10 2 6 115 ixS t.1 (b.1 89) := TWr_same Ku.1.2.2.2.2.1 (t2 10 (by decide) (by decide)) (t2 11 (by decide) (by decide)) rfl (fun _ _ _ _ => rfl)
  refine pk_b1 (V_bestC (q := glw (b.1 89) g) hI HS (by rw [t2 10 (by decide) (by decide)]; exact e10) hw hm t1 (fun k hk => by rw [t2 74 (by decide) (by decide)]; exact u1 k hk)) (fun v8 h8 => ?_)
  by_cases e : v8 = ci (-1)
  · rw [if_pos e, b1_some]
    exact pk_some (show v8 = _ from h8)
  · rw [if_neg e, if_pos rfl, b1_some]
    exact pk_some (show v8 = _ from h8)
theorem R_next {a b : mG} {x : Int32} (hI : IM b) (h : SIM a b) : rel (F_X11_next x a) (F_X12_next x b) (fun τ υ => τ.1 = υ.1) := by
  obtain ⟨n, nc, m, K, g2, V, hm, h3, hw⟩ := SIM_S h
  have hn := K.2.2.1
  unfold F_X11_next F_X12_next
  rw [V_isGuest, V_isGuestR g2 hn, b1_some, b1_some, show a.1 (1 + 1) 3 = cn n from K.2.1]
  refine rel_ifs Iff.rfl (fun _ => rel_some rfl) (fun hx => ?_)
  obtain ⟨g, hg, ex⟩ := ig_cn (by omega) hx
  rw [ex]
  refine rel_l2 (V_signC hI K hg h3 hw hm) (fun v6 s5 qo => ?_)
  have q : v6 = (bsN (wN (b.1 89) (sureN (b.1 89) m g)) (glw (b.1 89) g) m).1 := qo
  refine rel_r2 (V_sureS K.2.2.2.2 hn hg hw hm rfl) (fun v t qt => ?_)
  obtain ⟨t1o, t2o, _⟩ := qt
  have t1 : v = sureN (b.1 89) m g := t1o
  have t2 : ∀ j, j ≠ 96 → j ≠ 97 → t.1 j = b.1 j := t2o
  have e89 : t.1 89 = b.1 89 := t2 89 (by decide) (by decide)
  refine rel_r1 (V_looked hn hg hw hm e89) (fun v8 h8 => ?_)
  rw [t1]
  refine rel_r1 (V_nextR hw hm e89 h8) (fun v10 h10 => ?_)
  exact rel_some (show v6 = v10 from q.trans h10.symm)
end
