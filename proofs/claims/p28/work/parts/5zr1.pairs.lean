noncomputable section
/-! WHAT TO SAY; the likeliest two -/
def sayB (y : Int64) (p q : Int32) : Int32 := if 0 < lg_cmp ((cl 1000000 - y) * p.toInt64) (y * q.toInt64) then ci 0 else ci 1
theorem sayB_r {y : Int64} {p q : Int32} : sayB y p q = ci 0 ∨ sayB y p q = ci 1 := by
  unfold sayB
  by_cases h : 0 < lg_cmp ((cl 1000000 - y) * p.toInt64) (y * q.toInt64)
  · rw [if_pos h]; exact Or.inl rfl
  · rw [if_neg h]; exact Or.inr rfl
theorem V_isCost {s : mG} {x : Int32} : F_X12_isCost s x = some (wi x (ci 0) (c16 9999)) := by
  unfold F_X12_isCost
  rw [F_isIn, b1_some, if_pos (show wi x (ci 0) (c16 9999) = 0 ∨ wi x (ci 0) (c16 9999) = 1 from wi_b x (ci 0) (c16 9999))]
theorem V_bestSaid {s : mG} {y : Int64} {p q : Int32} : F_X0_isBestSaidIn s y p q = some (sayB y p q) := by
  unfold F_X0_isBestSaidIn sayB
  by_cases h : 0 < lg_cmp ((cl 1000000 - y) * p.toInt64) (y * q.toInt64)
  · rw [if_pos h, if_pos h]
  · rw [if_neg h, if_neg h]
theorem V_saysC {a b : mG} {n nc g m : Nat} {p q : Int32} (hI : IM b) (K : HK (b.1 89) n nc a) (hg : g < n) (h3 : a.1 10 3 = cn m) (hm : m ≤ 6) : pk (F_X0_saysIn (cn g) p q a) (fun τ => τ.1 = sayB (sureN (b.1 89) m g) p q) := by
  unfold F_X0_saysIn
  refine pk_b2 (V_sureC hI K hg h3 hm) (fun v3 s2 qt => ?_)
  obtain ⟨t1o, _⟩ := qt
  have t1 : Su v3 (sureN (b.1 89) m g) := t1o
  rw [V_bestSaid, b1_some, ← t1.1]
  refine pk_pp (pk_some (show sayB _ p q = sayB _ p q from rfl))
theorem R_say {a b : mG} {x y z : Int32} (hI : IM b) (h : SIM a b) : rel (F_X11_say x y z a) (F_X12_say x y z b) (fun τ υ => τ.1 = υ.1) := by
  obtain ⟨n, nc, m, K, g2, V, hm, h3, hw⟩ := SIM_S h
  have hn := K.2.2.1
  unfold F_X11_say F_X12_say F_X11_say_33 F_X12_say_22
  rw [V_isGuest, V_isGuestR g2 hn, b1_some, b1_some, show a.1 (1 + 1) 3 = cn n from K.2.1]
  refine rel_ifs Iff.rfl (fun _ => rel_some rfl) (fun hx => ?_)
  obtain ⟨g, hg, ex⟩ := ig_cn (by omega) hx
  rw [V_within, V_isCost, b1_some, b1_some]
  refine rel_ifs Iff.rfl (fun _ => rel_some rfl) (fun _ => ?_)
  rw [V_within, V_isCost, b1_some, b1_some]
  refine rel_ifs Iff.rfl (fun _ => rel_some rfl) (fun _ => ?_)
  rw [ex]
  refine rel_l2 (V_saysC (p := y) (q := z) hI K hg h3 hm) (fun v12 s11 qo => ?_)
  have q : v12 = sayB (sureN (b.1 89) m g) y z := qo
  refine rel_r2 (V_sureS K.2.2.2.2 hn hg hw hm rfl) (fun v t qt => ?_)
  obtain ⟨t1o, _⟩ := qt
  have t1 : v = sureN (b.1 89) m g := t1o
  rw [t1]
  unfold sayB at q
  by_cases hc : 0 < lg_cmp ((cl 1000000 - sureN (b.1 89) m g) * y.toInt64) (sureN (b.1 89) m g * z.toInt64)
  · rw [if_pos hc] at q ⊢
    rw [q, if_pos c0e0]
    exact rel_some rfl
  · rw [if_neg hc] at q ⊢
    rw [q, if_neg c1n0]
    exact rel_some rfl
/-- as Su, from -1 on -/
def Sm (x : Int32) (y : Int64) : Prop := y = x.toInt64 ∧ -1 ≤ x.toInt ∧ x.toInt ≤ 1000000
theorem Sm_1 : Sm (ci (-1)) (cl (-1)) := (show _ ∧ _ ∧ _ from ⟨by decide, by decide, by decide⟩)
theorem Sm_t {x : Int32} {y : Int64} (h : Sm x y) : y.toInt = x.toInt := by rw [h.1, Int32.toInt_toInt64]
theorem Sm_u {x : Int32} {y : Int64} (h : Su x y) : Sm x y := ⟨h.1, Int.le_trans (by decide) h.2.1, h.2.2⟩
theorem Sm_32 {x : Int32} {y : Int64} (h : Sm x y) : y.toInt32 = x := by
  have r := h.2
  exact Int32.toInt_inj.mp (q32 (Sm_t h) ⟨by omega, by omega⟩)
theorem le64 {x x' : Int32} {y y' : Int64} (h : y.toInt = x.toInt) (h' : y'.toInt = x'.toInt) : x ≤ x' ↔ ¬ 0 < lg_cmp y y' := by
  have e3 := lg_cmp_gt y y'
  rw [Int64.lt_iff_toInt_lt, h, h'] at e3
  rw [e3, Int32.le_iff_toInt_le]
  exact Int.not_lt.symm
theorem R_best2 {b u : mG} {n nc m : Nat} {x : Int32} (Ku : HK (b.1 89) n nc u) (u1 : ∀ g, g < n → Su (u.1 76 g) (sureN (b.1 89) m g)) (g2 : b.1 89 112 = cn n) (hw : b.1 89 115 = cn m) (hm : m ≤ 6) (hx : x = ci 0 ∨ x = ci 1 ∨ x = ci 2) : rel (F_X0_bestPair_L14 x (ci (-1)) (ci (-1)) (ci (-1)) (ci 0) u) (F_X12_pair_L35 x (cl (-1)) (ci (-1)) (ci (-1)) (ci 0) b) (fun τ υ => τ.1 = υ.1) := by
  have hn := Ku.2.2.1
  unfold F_X0_bestPair_L14 F_X12_pair_L35
  refine rel_whl (fun v w => v.1 = x ∧ w.1 = x ∧ v.2.1 = w.2.2.1 ∧ v.2.2.1 = w.2.2.2.1 ∧ Sm v.2.2.2.1 w.2.1 ∧ (∃ k, k ≤ n ∧ v.2.2.2.2.1 = cn k ∧ w.2.2.2.2.1 = cn k) ∧ v.2.2.2.2.2 = u ∧ ∀ j, j ≠ 96 → j ≠ 97 → w.2.2.2.2.2.1 j = b.1 j) ⟨rfl, rfl, rfl, rfl, Sm_1, ⟨0, Nat.zero_le _, rfl, rfl⟩, rfl, fun _ _ _ => rfl⟩ (fun v w hvw => ?_)
  obtain ⟨x1, x2, x3, x4, x5, s⟩ := v
  obtain ⟨y1, y2, y4, y5, y6, t⟩ := w
  obtain ⟨q0o, q1o, q2o, q3o, q4o, ⟨k, hk, q5o, q6o⟩, q7o, ro⟩ := hvw
  have q0 : x1 = x := q0o
  have q1 : y1 = x := q1o
  have q2 : x2 = y4 := q2o
  have q3 : x3 = y5 := q3o
  have q4 : Sm x4 y2 := q4o
  have q5 : x5 = cn k := q5o
  have q6 : y6 = cn k := q6o
  have q7 : s = u := q7o
  have r : ∀ j, j ≠ 96 → j ≠ 97 → t.1 j = b.1 j := ro
  have e89 : t.1 89 = b.1 89 := r 89 (by decide) (by decide)
  unfold F_X0_bestPair_B14 F_X12_pair_B35
  dsimp only
  rw [q0, q1, q2, q3, q5, q6, q7, e89, g2, Ku.2.1]
  by_cases hkn : n ≤ k
  · rw [if_pos ((cn_le (by omega) (by omega)).mpr hkn), if_pos ((cn_le (by omega) (by omega)).mpr hkn)]
    rcases hx with e | e | e
    · rw [e, if_neg (show ¬ ci 0 = ci 2 by decide), if_pos c0e0, if_pos c0e0]
      exact rel_some (show y4 = y4 from rfl)
    · rw [e, if_neg (show ¬ ci 1 = ci 2 by decide), if_neg c1n0, if_neg c1n0, if_pos rfl]
      exact rel_some (show y5 = y5 from rfl)
    · rw [e, if_pos rfl, if_neg (show ¬ ci 2 = 0 by decide), if_neg (show ¬ ci 2 = ci 1 by decide)]
      exact rel_some (show x4 = y2.toInt32 from (Sm_32 q4).symm)
  rw [if_neg (fun q => hkn ((cn_le (by omega) (by omega)).mp q)), if_neg (fun q => hkn ((cn_le (by omega) (by omega)).mp q)), show cn k + ci 1 = cn (k + 1) from cnu (by omega)]
  unfold F_X0_bestPair_L35 F_X12_pair_L53
  refine rel_whl (fun v w => v.1 = x ∧ w.1 = x ∧ v.2.1 = w.2.2.1 ∧ v.2.2.1 = w.2.2.2.1 ∧ Sm v.2.2.2.1 w.2.1 ∧ v.2.2.2.2.1 = cn k ∧ w.2.2.2.2.1 = cn k ∧ (∃ p, p ≤ n ∧ v.2.2.2.2.2.1 = cn p ∧ w.2.2.2.2.2.1 = cn p) ∧ v.2.2.2.2.2.2 = u ∧ ∀ j, j ≠ 96 → j ≠ 97 → w.2.2.2.2.2.2.1 j = b.1 j) ⟨rfl, rfl, rfl, rfl, q4, rfl, rfl, ⟨k + 1, by omega, rfl, rfl⟩, rfl, r⟩ (fun v w hvw => ?_)
  obtain ⟨z1, z2, z3, z4, z5, z6, s'⟩ := v
  obtain ⟨o1, o2, o4, o5, o6, o7, t'⟩ := w
  obtain ⟨p0o, p1o, p2o, p3o, p4o, p5o, p6o, ⟨p, hp, p7o, p8o⟩, p9o, rto⟩ := hvw
  have p0 : z1 = x := p0o
  have p1 : o1 = x := p1o
  have p2 : z2 = o4 := p2o
  have p3 : z3 = o5 := p3o
  have p4 : Sm z4 o2 := p4o
  have p5 : z5 = cn k := p5o
  have p6 : o6 = cn k := p6o
  have p7 : z6 = cn p := p7o
  have p8 : o7 = cn p := p8o
  have p9 : s' = u := p9o
  have rt : ∀ j, j ≠ 96 → j ≠ 97 → t'.1 j = b.1 j := rto
  have f89 : t'.1 89 = b.1 89 := rt 89 (by decide) (by decide)
  unfold F_X0_bestPair_B35 F_X12_pair_B53 F_X0_bestPair_90 F_X12_pair_105
  dsimp only
  rw [p0, p1, p2, p3, p5, p6, p7, p8, p9, f89, g2, Ku.2.1]
  by_cases hpn : n ≤ p
  · rw [if_pos ((cn_le (by omega) (by omega)).mpr hpn), if_pos ((cn_le (by omega) (by omega)).mpr hpn)]
    exact rel_some (show _ ∧ _ ∧ _ ∧ _ ∧ _ ∧ (∃ k', _) ∧ _ ∧ _ from ⟨rfl, rfl, rfl, rfl, p4, ⟨k + 1, by omega, cnu (by omega), cnu (by omega)⟩, rfl, rt⟩)
  rw [if_neg (fun q => hpn ((cn_le (by omega) (by omega)).mp q)), if_neg (fun q => hpn ((cn_le (by omega) (by omega)).mp q)), V_cellJ (j := 76) (k := k) sh76 (by omega) (by decide), b1_some, V_cellJ (j := 76) (k := p) sh76 (by omega) (by decide), b1_some]
  refine rel_l1 (Su_share (u1 k (by omega)) (u1 p (by omega))) (fun v12 h12 => ?_)
  refine rel_r2 (V_sureS Ku.2.2.2.2 hn (by omega : k < n) hw hm f89) (fun v11 s10 qt => ?_)
  obtain ⟨t1o, t2o, _⟩ := qt
  have t1 : v11 = sureN (b.1 89) m k := t1o
  have t2 : ∀ j, j ≠ 96 → j ≠ 97 → s10.1 j = t'.1 j := t2o
  refine rel_r2 (V_sureS Ku.2.2.2.2 hn (by omega : p < n) hw hm ((t2 89 (by decide) (by decide)).trans f89)) (fun v14 s13 qs => ?_)
  obtain ⟨w1o, w2o, _⟩ := qs
  have w1 : v14 = sureN (b.1 89) m p := w1o
  have w2 : ∀ j, j ≠ 96 → j ≠ 97 → s13.1 j = s10.1 j := w2o
  have fr : ∀ j, j ≠ 96 → j ≠ 97 → s13.1 j = b.1 j := fun j h1 h2 => (w2 j h1 h2).trans ((t2 j h1 h2).trans (rt j h1 h2))
  rw [t1, w1]
  have M := le64 (Su_t h12) (Sm_t p4)
  refine rel_ri (fun hc => ?_) (fun hc => ?_)
  · rw [if_neg (fun q => M.mp q hc)]
    exact rel_some (show _ ∧ _ ∧ _ ∧ _ ∧ _ ∧ _ ∧ _ ∧ (∃ k', _) ∧ _ ∧ _ from ⟨rfl, rfl, rfl, rfl, Sm_u h12, rfl, rfl, ⟨p + 1, by omega, cnu (by omega), cnu (by omega)⟩, rfl, fr⟩)
  · rw [if_pos (M.mpr hc)]
    exact rel_some (show _ ∧ _ ∧ _ ∧ _ ∧ _ ∧ _ ∧ _ ∧ (∃ k', _) ∧ _ ∧ _ from ⟨rfl, rfl, rfl, rfl, p4, rfl, rfl, ⟨p + 1, by omega, cnu (by omega), cnu (by omega)⟩, rfl, fr⟩)
theorem R_pair {a b : mG} {x : Int32} (hI : IM b) (h : SIM a b) : rel (F_X11_pair x a) (F_X12_pair x b) (fun τ υ => τ.1 = υ.1) := by
  obtain ⟨n, nc, m, K, g2, V, hm, h3, hw⟩ := SIM_S h
  have hn := K.2.2.1
  unfold F_X11_pair F_X12_pair F_X11_pair_23 F_X12_pair_20
  rw [V_within, F_isIn, b1_some, b1_some]
  refine rel_ifs Iff.rfl (fun _ => rel_some rfl) (fun hx => ?_)
  rw [K.2.1, g2]
  refine rel_ifs Iff.rfl (fun _ => ?_) (fun _ => rel_some rfl)
  obtain ⟨c, hc, ey⟩ := wi_cn (l := 2) (by omega) hx
  have hx3 : x = ci 0 ∨ x = ci 1 ∨ x = ci 2 := by
    rcases (show c = 0 ∨ c = 1 ∨ c = 2 by omega) with e | e | e <;> rw [e] at ey
    · exact Or.inl ey
    · exact Or.inr (Or.inl ey)
    · exact Or.inr (Or.inr ey)
  unfold F_X0_bestPair
  rw [b2_b1]
  refine rel_l1 (V_weigh hI K h3 hm) (fun u qu => ?_)
  obtain ⟨u1, u2⟩ := qu
  have Ku : HK (b.1 89) n nc u := HK_low K (fun j h1 h2 => u2 j (by omega) (by omega) (by omega) (by omega))
  rw [b2_id]
  exact R_best2 Ku u1 g2 hw hm hx3
end
