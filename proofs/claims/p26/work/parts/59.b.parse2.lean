/-! THE REFERENCE READS A TEXT: sums and tests -/
def kE (k : Nat) : Prop := k < 13 ∨ k = 14 ∨ k = 15 ∨ k = 22 ∨ 24 ≤ k
def RE (s s' : mG) : Prop := (∀ j, j ≠ 88 → j ≠ 93 → s'.1 j = s.1 j) ∧ (∀ k, kE k → s'.1 88 k = s.1 88 k)
theorem RE_refl {s : mG} : RE s s := ⟨fun _ _ _ => rfl, fun _ _ => rfl⟩
theorem RE_tr {s s' s2 : mG} (h : RE s s') (k : RE s' s2) : RE s s2 := ⟨fun j h1 h2 => (k.1 j h1 h2).trans (h.1 j h1 h2), fun i h1 => (k.2 i h1).trans (h.2 i h1)⟩
theorem RE_RN {s s' : mG} (h : RN s s') : RE s s' := ⟨fun j h1 _ => h.1 j h1, fun k hk => h.2 k (by unfold kE at hk; omega) (by unfold kE at hk; omega) (by unfold kE at hk; omega) (by unfold kE at hk; omega)⟩
theorem RE_mu {s : mG} {k : Nat} {v : Int32} (hk : ¬ kE k) : RE s (mu s.1 88 k v, s.2) := ⟨fun j h1 _ => mu_rowP h1, fun i hi => mu_cellP (Or.inr fun e => hk (e ▸ hi))⟩
def HH (s s' : mG) (d : Nat) (σ : Int) : Prop :=
  0 ≤ (s.1 88 13).toInt ∧ RE s s' ∧ PI s' ∧ (s.1 88 13).toInt ≤ (s'.1 88 13).toInt ∧ (s.1 88 18).toInt - (s.1 88 13).toInt + σ ≤ (s'.1 88 18).toInt - (s'.1 88 13).toInt ∧ (s.1 88 18).toInt ≤ (s'.1 88 18).toInt ∧ (∀ j : Nat, (j : Int) < 2 * (s.1 88 13).toInt → s'.1 93 j = s.1 93 j) ∧ ∀ h, Rc (s'.1 93) (s.1 88 13).toInt.toNat ((s'.1 88 13).toInt - (s.1 88 13).toInt).toNat h (h + d)
def PE (s : mG) : Prop := PI s ∧ 0 ≤ (s.1 88 13).toInt ∧ (s.1 88 13).toInt ≤ (s.1 88 18).toInt
theorem HH_refl {s : mG} (h : PI s) (h0 : 0 ≤ (s.1 88 13).toInt) : HH s s 0 0 :=
  ⟨h0, RE_refl, h, by omega, by omega, by omega, fun _ _ => rfl, fun h => by rw [Int.sub_self]; rfl⟩
theorem HH_weak {s s' : mG} {d : Nat} {σ σ' : Int} (h : HH s s' d σ) (hs : σ' ≤ σ) : HH s s' d σ' := by
  obtain ⟨a, b, c, d, e, f⟩ := h
  exact ⟨a, b, c, d, by omega, f⟩
theorem HH_nx {s s1 s2 : mG} {d : Nat} {σ : Int} (h : HH s s1 d σ) (k : NX s1 s2) : HH s s2 d (σ + ((s1.1 88 16).toInt - (s1.1 88 18).toInt)) := by
  obtain ⟨q0, q1, q2, q3, q4, q5, q6, q7⟩ := h
  have e13 : s2.1 88 13 = s1.1 88 13 := k.1.2 13 (by decide) (by decide) (by decide) (by decide)
  have e93 : s2.1 93 = s1.1 93 := k.1.1 93 (by decide)
  have k2 := k.2.2
  have p1 := q2.2.2.1
  refine ⟨q0, RE_tr q1 (RE_RN k.1), k.2.1, by rw [e13]; exact q3, by rw [e13]; omega, by omega, by rw [e93]; exact q6, by rw [e93, e13]; exact q7⟩
theorem HH_nx0 {s s1 s2 : mG} {d : Nat} {σ : Int} (h : HH s s1 d σ) (k : NX s1 s2) : HH s s2 d σ := HH_weak (HH_nx h k) (by have := h.2.2.1.2.2.1; omega)
theorem HH_nx1 {s s1 s2 : mG} {d : Nat} {σ : Int} (h : HH s s1 d σ) (k : NX s1 s2) (ht : s1.1 88 17 ≠ 0) : HH s s2 d (σ + 1) := HH_weak (HH_nx h k) (by have := h.2.2.1.2.2.2.2 ht; omega)
theorem HH_tr {s s1 s2 : mG} {d e : Nat} {σ τ : Int} (h : HH s s1 d σ) (k : HH s1 s2 e τ) : HH s s2 (d + e) (σ + τ) := by
  obtain ⟨q0, q1, q2, q3, q4, q5, q6, q7⟩ := h
  obtain ⟨w0, w1, w2, w3, w4, w5, w6, w7⟩ := k
  refine ⟨q0, RE_tr q1 w1, w2, by omega, by omega, by omega, fun j hj => (w6 j (by omega)).trans (q6 j hj), fun h => ?_⟩
  have r1 := Rc_congr _ _ _ _ (fun j _ hj => w6 j (by omega)) (q7 h)
  have r2 := w7 (h + d)
  rw [show (s1.1 88 13).toInt.toNat = (s.1 88 13).toInt.toNat + ((s1.1 88 13).toInt - (s.1 88 13).toInt).toNat by omega] at r2
  have r3 := Rc_trans _ _ _ _ _ _ r1 r2
  rw [show ((s1.1 88 13).toInt - (s.1 88 13).toInt).toNat + ((s2.1 88 13).toInt - (s1.1 88 13).toInt).toNat = ((s2.1 88 13).toInt - (s.1 88 13).toInt).toNat by omega, Nat.add_assoc] at r3
  exact r3
def LY (s s' : mG) (k v : Int32) : Prop := (∀ j, j ≠ 88 → j ≠ 93 → s'.1 j = s.1 j) ∧ (∀ i, i ≠ 13 → s'.1 88 i = s.1 88 i) ∧ (s'.1 88 13).toInt = (s.1 88 13).toInt + 1 ∧ s'.1 93 (2 * (s.1 88 13).toInt.toNat) = k ∧ s'.1 93 (2 * (s.1 88 13).toInt.toNat + 1) = v ∧ ∀ j, j ≠ 2 * (s.1 88 13).toInt.toNat → j ≠ 2 * (s.1 88 13).toInt.toNat + 1 → s'.1 93 j = s.1 93 j
theorem T_X12_lay {a1 a2 : Int32} {s : mG} (h0 : 0 ≤ (s.1 88 13).toInt) (h1 : (s.1 88 13).toInt ≤ 409) : ok (F_X12_lay a1 a2 s) (fun s' => LY s s' a1 a2) := by
  obtain ⟨n, en⟩ : ∃ n : Nat, (s.1 88 13).toInt = (n : Int) := ⟨(s.1 88 13).toInt.toNat, by omega⟩
  unfold F_X12_lay
  refine ok_nn (ix_ok (r_mul (by decide : (ci 2).toInt = 2) en (by omega) (by omega)) (by omega) (by omega)) ?_
  rw [r_nat2 (e := (ci 2) * (s.1 88 13)) (m := 2 * n) (r_mul (by decide : (ci 2).toInt = 2) en (by omega) (by omega)) (by omega)]
  extract_lets +onlyGivenNames s2
  have r2 : ∀ j, j ≠ 93 → s2.1 j = s.1 j := fun j hj => mu_rowP hj
  have c2 : ∀ j, j ≠ 2 * n → s2.1 93 j = s.1 93 j := fun j hj => mu_cellP (Or.inr hj)
  have v2 : s2.1 93 (2 * n) = a1 := mu_sameP
  clear_value s2
  have e13 : s2.1 88 13 = s.1 88 13 := congrFun (r2 88 (by decide)) 13
  rw [e13]
  refine ok_nn (ix_ok (r_add (r_mul (by decide : (ci 2).toInt = 2) en (by omega) (by omega)) (by decide : (ci 1).toInt = 1) (by omega) (by omega)) (by omega) (by omega)) ?_
  rw [r_nat2 (e := ((ci 2) * (s.1 88 13)) + (ci 1)) (m := 2 * n + 1) (r_add (r_mul (by decide : (ci 2).toInt = 2) en (by omega) (by omega)) (by decide : (ci 1).toInt = 1) (by omega) (by omega)) (by omega)]
  extract_lets +onlyGivenNames s4
  have r4 : ∀ j, j ≠ 93 → s4.1 j = s2.1 j := fun j hj => mu_rowP hj
  have c4 : ∀ j, j ≠ 2 * n + 1 → s4.1 93 j = s2.1 93 j := fun j hj => mu_cellP (Or.inr hj)
  have v4 : s4.1 93 (2 * n + 1) = a2 := mu_sameP
  clear_value s4
  have f13 : s4.1 88 13 = s.1 88 13 := (congrFun (r4 88 (by decide)) 13).trans e13
  extract_lets +onlyGivenNames s5
  have r5 : ∀ j, j ≠ 88 → s5.1 j = s4.1 j := fun j hj => mu_rowP hj
  have c5 : ∀ j, j ≠ 13 → s5.1 88 j = s4.1 88 j := fun j hj => mu_cellP (Or.inr hj)
  have v5 : s5.1 88 13 = s4.1 88 13 + ci 1 := mu_sameP
  clear_value s5
  have g93 : s5.1 93 = s4.1 93 := r5 93 (by decide)
  have g88 : s4.1 88 = s.1 88 := (r4 88 (by decide)).trans (r2 88 (by decide))
  refine ok_some ⟨fun j h8 h9 => (r5 j h8).trans ((r4 j h9).trans (r2 j h9)), fun i hi => (c5 i hi).trans (by rw [g88]), by rw [v5, f13, t_up (by omega)], ?_, ?_, fun j q1 q2 => ?_⟩
  · rw [en, g93]
    show s4.1 93 (2 * n) = a1
    rw [c4 _ (by omega)]; exact v2
  · rw [en, g93]
    exact v4
  · rw [en] at q1 q2
    have q1' : j ≠ 2 * n := q1
    have q2' : j ≠ 2 * n + 1 := q2
    rw [g93, c4 _ q2', c2 _ q1']
theorem HH_lay {s s1 s2 : mG} {k v : Int32} {d d' : Nat} {σ : Int} (h : HH s s1 d σ) (l : LY s1 s2 k v) (hs : ∀ h, stpv k v (h + d) = some (h + d')) : HH s s2 d' (σ - 1) := by
  obtain ⟨q0, q1, q2, q3, q4, q5, q6, q7⟩ := h
  obtain ⟨l1, l2, l3, l4, l5, l6⟩ := l
  have e15 := l2 15 (by decide)
  have e16 := l2 16 (by decide)
  have e17 := l2 17 (by decide)
  have e18 := l2 18 (by decide)
  refine ⟨q0, RE_tr q1 ⟨l1, fun k hk => l2 k (by unfold kE at hk; omega)⟩, ?_, by omega, by rw [e18]; omega, by rw [e18]; exact q5, fun j hj => (l6 j (by omega) (by omega)).trans (q6 j hj), fun h => ?_⟩
  · unfold PI; rw [e15, e16, e17, e18]; exact q2
  · have r1 := Rc_congr (c' := s2.1 93) _ _ _ _ (fun j _ hj => l6 j (by omega) (by omega)) (q7 h)
    have r2 : Rc (s2.1 93) ((s.1 88 13).toInt.toNat + ((s1.1 88 13).toInt - (s.1 88 13).toInt).toNat) 1 (h + d) (h + d') := by
      rw [show (s.1 88 13).toInt.toNat + ((s1.1 88 13).toInt - (s.1 88 13).toInt).toNat = (s1.1 88 13).toInt.toNat by omega]
      refine ⟨h + d', ?_, rfl⟩
      unfold stp
      rw [l4, l5]
      exact hs h
    have r3 := Rc_trans _ _ _ _ _ _ r1 r2
    rw [show ((s1.1 88 13).toInt - (s.1 88 13).toInt).toNat + 1 = ((s2.1 88 13).toInt - (s.1 88 13).toInt).toNat by omega] at r3
    exact r3
theorem HH_PE {s s1 : mG} {d : Nat} {σ : Int} (h : HH s s1 d σ) (hs : 0 ≤ σ) (hp : PE s) : PE s1 := by
  obtain ⟨q0, q1, q2, q3, q4, q5, q6, q7⟩ := h
  exact ⟨q2, by omega, by have := hp.2.2; omega⟩
theorem HH_st {s s1 : mG} {d : Nat} {σ : Int} (h : HH s s1 d σ) (hs : -5 ≤ σ) (hp : PE s) : 0 ≤ (s1.1 88 13).toInt ∧ (s1.1 88 13).toInt ≤ 409 := by
  obtain ⟨q0, q1, q2, q3, q4, q5, q6, q7⟩ := h
  have := hp.2.2
  have := q2.1
  have := q2.2.1
  have := q2.2.2.1
  have := q2.2.2.2.1
  exact ⟨by omega, by omega⟩
theorem HH_23 {s s1 : mG} {d : Nat} {σ : Int} {v : Int32} (h : HH s s1 d σ) : HH s (mu s1.1 88 23 v, s1.2) d σ := by
  obtain ⟨q0, q1, q2, q3, q4, q5, q6, q7⟩ := h
  have c : ∀ k, k ≠ 23 → (mu s1.1 88 23 v, s1.2).1 88 k = s1.1 88 k := fun k hk => mu_cellP (Or.inr hk)
  have e93 : (mu s1.1 88 23 v, s1.2).1 93 = s1.1 93 := mu_rowP (by decide)
  refine ⟨q0, RE_tr q1 (RE_mu (by unfold kE; omega)), ?_, ?_, ?_, ?_, ?_, ?_⟩
  · unfold PI; rw [c 15 (by decide), c 16 (by decide), c 17 (by decide), c 18 (by decide)]; exact q2
  · rw [c 13 (by decide)]; exact q3
  · rw [c 13 (by decide), c 18 (by decide)]; exact q4
  · rw [c 18 (by decide)]; exact q5
  · rw [e93]; exact q6
  · rw [e93, c 13 (by decide)]; exact q7
def PO (s : mG) (τ : Int32 × mG) : Prop := PB τ.1 ∧ RE s τ.2 ∧ (¬ τ.1 = 0 → HH s τ.2 1 0 ∧ τ.2.1 88 23 = s.1 88 23)
theorem z0 : ci 0 = 0 := by decide
theorem PO_no {s s' : mG} (h : RE s s') : PO s (ci 0, s') := ⟨pb0, h, fun q => absurd z0 q⟩
theorem T_X12_bad {a1 : Int32} {s : mG} : ok (F_X12_bad a1 s) (fun τ => τ.1 = ci 0 ∧ RE s τ.2) := by
  unfold F_X12_bad
  exact ok_some ⟨rfl, RE_tr (RE_mu (by unfold kE; omega)) (RE_mu (by unfold kE; omega))⟩
theorem bad_PO {a1 : Int32} {s0 s : mG} (h : RE s0 s) : ok (b2 (F_X12_bad a1 s) fun v s' => if v = 0 ∨ v = 1 then some (v, s') else none) (PO s0) := by
  refine ok_b2 T_X12_bad (fun v s' hq => ?_)
  have hv : v = ci 0 := hq.1
  have hr : RE s s' := hq.2
  subst hv
  rw [if_pos (show ci 0 = 0 ∨ ci 0 = 1 from pb0)]
  exact ok_some (PO_no (RE_tr h hr))
theorem bad_lp {a1 : Int32} {s0 s : mG} {P : mG → Prop} {μ : mG → Nat} {n : Nat} (h : RE s0 s) : ok (b2 (F_X12_bad a1 s) fun v s' => if v = 0 ∨ v = 1 then some (Sum.inr (v, s')) else none) (lpost P μ n (PO s0)) := by
  refine ok_b2 T_X12_bad (fun v s' hq => ?_)
  have hv : v = ci 0 := hq.1
  have hr : RE s s' := hq.2
  subst hv
  rw [if_pos (show ci 0 = 0 ∨ ci 0 = 1 from pb0)]
  exact ok_some (lp_inr (PO_no (RE_tr h hr)))
theorem T_X12_need {a1 : Int32} {s : mG} (h : P0 s) : ok (F_X12_need a1 s) (fun τ => PB τ.1 ∧ RE s τ.2 ∧ (¬ τ.1 = 0 → NX s τ.2 ∧ s.1 88 17 = a1)) := by
  unfold F_X12_need
  refine ok_ite (fun c => ?_) (fun _ => ?_)
  · refine ok_b1 (T_X12_next0 h) (fun s3 h3 => ?_)
    exact ok_some ⟨pb1, RE_RN h3.1, fun _ => ⟨h3, c⟩⟩
  · refine ok_b2 T_X12_bad (fun v s' hq => ?_)
    have hv : v = ci 0 := hq.1
    have hr : RE s s' := hq.2
    subst hv
    rw [if_pos (show ci 0 = 0 ∨ ci 0 = 1 from pb0)]
    exact ok_some ⟨pb0, hr, fun q => absurd z0 q⟩
theorem stp_push {k v : Int32} (h0 : 0 ≤ k.toInt ∧ k.toInt < 10) (h : Nat) : stpv k v (h + 0) = some (h + 1) := by
  unfold stpv
  rw [if_pos (by omega), if_pos h0]
theorem stp_bin {k v : Int32} (h1 : 23 ≤ k.toInt) (h2 : k.toInt ≠ 26) (h3 : k.toInt ≠ 30) (h : Nat) : stpv k v (h + 2) = some (h + 1) := by
  unfold stpv
  rw [if_neg (by omega), if_neg h2, if_neg h3, if_pos (by omega)]
  rfl
theorem stp_part {v : Int32} (hv : v ≠ 0) (h : Nat) : stpv (c8 26) v (h + 1) = some (h + 1) := by
  have e : (c8 26).toInt = 26 := by decide
  unfold stpv
  rw [e, if_neg (by decide), if_pos rfl, if_pos ⟨by omega, hv⟩]
theorem stp_not {v : Int32} (h : Nat) : stpv (c8 30) v (h + 1) = some (h + 1) := by
  have e : (c8 30).toInt = 30 := by decide
  unfold stpv
  rw [e, if_neg (by decide), if_neg (by decide), if_pos rfl, if_pos (by omega)]
theorem unit_46 {y1 : Int32} {s : mG} (h : PE s) (ht : s.1 88 17 ≠ 0) (hy : 0 ≤ y1.toInt ∧ y1.toInt < 10) : ok (F_X12_unit_46 y1 s) (PO s) := by
  unfold F_X12_unit_46
  have h0 := HH_refl h.1 h.2.1
  have b := HH_st h0 (by decide) h
  refine ok_b1 (T_X12_lay b.1 b.2) (fun s6 l6 => ?_)
  have h6 : HH s s6 1 (0 - 1) := HH_lay h0 l6 (stp_push hy)
  refine ok_b1 (T_X12_next0 (PI_P0 h6.2.2.1)) (fun s8 h8 => ?_)
  have g8 : HH s s8 1 (0 - 1 + 1) := HH_nx1 h6 h8 (by rw [l6.2.1 17 (by decide)]; exact ht)
  refine ok_some ⟨pb1, g8.2.1, fun _ => ⟨HH_weak g8 (by omega), ?_⟩⟩
  exact (h8.1.2 23 (by decide) (by decide) (by decide) (by decide)).trans (l6.2.1 23 (by decide))
theorem T_X12_unit {s : mG} (h : PE s) : ok (F_X12_unit s) (PO s) := by
  unfold F_X12_unit F_X12_unit_30
  rw [F_isIn, b1_some]
  have b1 : ¬ wi (s.1 88 17) (c8 41) (c8 49) = 0 → 41 ≤ (s.1 88 17).toInt ∧ (s.1 88 17).toInt ≤ 49 := fun q => isin_f (a := s.1 88 17) (by decide : (c8 41).toInt = 41) (by decide : (c8 49).toInt = 49) (wi_f q)
  have nz : ∀ {n : Int}, (s.1 88 17).toInt = n → n ≠ 0 → s.1 88 17 ≠ 0 := fun e hn q => by rw [q, t_zero] at e; exact hn e.symm
  refine ok_ite (fun c => ?_) (fun c => ?_)
  · have e2 : (s.1 88 17).toInt = 2 := by rw [c]; decide
    refine ok_ite (fun _ => ?_) (fun q => ?_)
    · exact unit_46 h (nz e2 (by decide)) (by rw [show (ci 0).toInt = 0 by decide]; omega)
    · have := b1 q
      omega
  · refine ok_ite (fun _ => bad_PO RE_refl) (fun q => ?_)
    have b2 := b1 q
    refine ok_ite (fun w => absurd w q) (fun _ => ?_)
    exact unit_46 h (nz rfl (by omega)) (by rw [r_sub (rfl : (s.1 88 17).toInt = _) (by decide : (c8 40).toInt = 40) (by omega) (by omega)]; omega)
theorem tok_ne {s : mG} {c : Int32} (h : s.1 88 17 = c) (hc : ¬ c = 0) : s.1 88 17 ≠ 0 := by rw [h]; exact hc
/-- a state of a loop over factors, terms, tests -/
def LQ (s v : mG) : Prop := HH s v 1 0 ∧ v.1 88 23 = s.1 88 23
theorem LQ_m {s1 s8 s11 s15 : mG} {k v : Int32} (ht : s1.1 88 17 ≠ 0) (hp : PI s1) (h8 : NX s1 s8) (h11 : (s8.1 88 18).toInt ≤ (s11.1 88 18).toInt) (l : LY s11 s15 k v) : mUp (s15.1 88 18) < mUp (s1.1 88 18) := by
  have a1 := hp.2.2.2.2 ht
  have a2 := h8.2.2
  have a3 := hp.1
  have a4 := hp.2.2.2.1
  unfold mUp
  rw [l.2.1 18 (by decide)]
  omega
theorem prod_44 {y0 : Int32} {s s1 : mG} (h : PE s) (h1 : LQ s s1) (ht : s1.1 88 17 ≠ 0) : ok (F_X12_product_44 y0 s1) (lpost (LQ s) (fun v => mUp (v.1 88 18)) (mUp (s1.1 88 18)) (PO s)) := by
  unfold F_X12_product_44 F_X12_product_112
  refine ok_b1 (T_X12_next0 (PI_P0 h1.1.2.2.1)) (fun s8 h8 => ?_)
  have g8 : HH s s8 1 (0 + 1) := HH_nx1 h1.1 h8 ht
  have p8 : PE s8 := HH_PE g8 (by decide) h
  have d8 : s8.1 88 23 = s.1 88 23 := (h8.1.2 23 (by decide) (by decide) (by decide) (by decide)).trans h1.2
  refine ok_ite (fun _ => ?_) (fun _ => ?_)
  · refine ok_b2 (T_X12_unit p8) (fun v12 s11 hq => ?_)
    have h11 : PO s8 (v12, s11) := hq
    clear hq
    refine ok_ite (fun _ => ok_some (lp_inr (PO_no (RE_tr g8.2.1 h11.2.1)))) (fun c => ?_)
    have k11 := h11.2.2 c
    have g11 : HH s s11 (1 + 1) (0 + 1 + 0) := HH_tr g8 k11.1
    have b := HH_st g11 (by decide) h
    refine ok_b1 (T_X12_lay b.1 b.2) (fun s15 l15 => ?_)
    have g15 := HH_lay g11 l15 (stp_bin (by decide) (by decide) (by decide))
    exact ok_some (lp_inl ⟨HH_weak g15 (by decide), (l15.2.1 23 (by decide)).trans (k11.2.trans d8)⟩ (LQ_m ht h1.1.2.2.1 h8 k11.1.2.2.2.2.2.1 l15))
  · refine ok_ite (fun c => ?_) (fun _ => bad_lp g8.2.1)
    refine ok_ite (fun _ => bad_lp g8.2.1) (fun cv => ?_)
    refine ok_b1 (T_X12_next0 (PI_P0 g8.2.2.1)) (fun s23 h23 => ?_)
    have g23 : HH s s23 1 (0 + 1 + 1) := HH_nx1 g8 h23 (tok_ne c (by decide))
    have b := HH_st g23 (by decide) h
    refine ok_b1 (T_X12_lay b.1 b.2) (fun s25 l25 => ?_)
    have g25 := HH_lay g23 l25 (stp_part cv)
    have m1 : (s8.1 88 18).toInt ≤ (s23.1 88 18).toInt := by have := g8.2.2.1.2.2.1; have := h23.2.2; omega
    exact ok_some (lp_inl ⟨HH_weak g25 (by decide), (l25.2.1 23 (by decide)).trans ((h23.1.2 23 (by decide) (by decide) (by decide) (by decide)).trans d8)⟩ (LQ_m ht h1.1.2.2.1 h8 m1 l25))
theorem T_X12_product {s : mG} (h : PE s) : ok (F_X12_product s) (PO s) := by
  unfold F_X12_product
  refine ok_b2 (T_X12_unit h) (fun v3 s2 hq => ?_)
  have h2 : PO s (v3, s2) := hq
  clear hq
  refine ok_ite (fun _ => ok_some (PO_no h2.2.1)) (fun c => ?_)
  unfold F_X12_product_L9
  refine ok_whl (LQ s) (fun v => mUp (v.1 88 18)) (h2.2.2 c) (fun s1 h1 => ?_)
  show ok (F_X12_product_B9 s1) _
  unfold F_X12_product_B9 F_X12_product_29
  have go : s1.1 88 17 ≠ 0 → ∀ y, ok (F_X12_product_44 y s1) (lpost (LQ s) (fun v => mUp (v.1 88 18)) (mUp (s1.1 88 18)) (PO s)) := fun ht y => prod_44 h h1 ht
  refine ok_ite (fun c => ?_) (fun _ => ok_ite (fun c => ?_) (fun _ => ?_))
  · exact ok_ite (fun _ => go (tok_ne c (by decide)) _) (fun _ => go (tok_ne c (by decide)) _)
  · exact ok_ite (fun _ => go (tok_ne c (by decide)) _) (fun _ => go (tok_ne c (by decide)) _)
  · exact ok_some (lp_inr ⟨pb1, h1.1.2.1, fun _ => h1⟩)
theorem sum_46 {y0 : Int32} {s s1 : mG} (h : PE s) (h1 : LQ s s1) (ht : s1.1 88 17 ≠ 0) (hy : y0 = c8 23 ∨ y0 = c8 24) : ok (F_X12_sumUp_46 y0 s1) (lpost (LQ s) (fun v => mUp (v.1 88 18)) (mUp (s1.1 88 18)) (PO s)) := by
  unfold F_X12_sumUp_46
  refine ok_b1 (T_X12_next0 (PI_P0 h1.1.2.2.1)) (fun s8 h8 => ?_)
  have g8 : HH s s8 1 (0 + 1) := HH_nx1 h1.1 h8 ht
  have p8 : PE s8 := HH_PE g8 (by decide) h
  have d8 : s8.1 88 23 = s.1 88 23 := (h8.1.2 23 (by decide) (by decide) (by decide) (by decide)).trans h1.2
  refine ok_b2 (T_X12_product p8) (fun v12 s11 hq => ?_)
  have h11 : PO s8 (v12, s11) := hq
  clear hq
  refine ok_ite (fun _ => ok_some (lp_inr (PO_no (RE_tr g8.2.1 h11.2.1)))) (fun c => ?_)
  have k11 := h11.2.2 c
  have g11 : HH s s11 (1 + 1) (0 + 1 + 0) := HH_tr g8 k11.1
  have b := HH_st g11 (by decide) h
  refine ok_b1 (T_X12_lay b.1 b.2) (fun s15 l15 => ?_)
  have hs : ∀ h, stpv y0 (ci 0) (h + 2) = some (h + 1) := by
    rcases hy with e | e
    · rw [e]; exact stp_bin (by decide) (by decide) (by decide)
    · rw [e]; exact stp_bin (by decide) (by decide) (by decide)
  have g15 := HH_lay g11 l15 hs
  exact ok_some (lp_inl ⟨HH_weak g15 (by decide), (l15.2.1 23 (by decide)).trans (k11.2.trans d8)⟩ (LQ_m ht h1.1.2.2.1 h8 k11.1.2.2.2.2.2.1 l15))
theorem T_X12_sumUp {s : mG} (h : PE s) : ok (F_X12_sumUp s) (PO s) := by
  unfold F_X12_sumUp
  refine ok_b2 (T_X12_product h) (fun v3 s2 hq => ?_)
  have h2 : PO s (v3, s2) := hq
  clear hq
  refine ok_ite (fun _ => ok_some (PO_no h2.2.1)) (fun c => ?_)
  unfold F_X12_sumUp_L9
  refine ok_whl (LQ s) (fun v => mUp (v.1 88 18)) (h2.2.2 c) (fun s1 h1 => ?_)
  show ok (F_X12_sumUp_B9 s1) _
  unfold F_X12_sumUp_B9 F_X12_sumUp_29
  refine ok_ite (fun c => ?_) (fun _ => ok_ite (fun c => ?_) (fun _ => ?_))
  · exact ok_ite (fun _ => sum_46 h h1 (tok_ne c (by decide)) (Or.inl rfl)) (fun _ => sum_46 h h1 (tok_ne c (by decide)) (Or.inr rfl))
  · exact ok_ite (fun _ => sum_46 h h1 (tok_ne c (by decide)) (Or.inl rfl)) (fun _ => sum_46 h h1 (tok_ne c (by decide)) (Or.inr rfl))
  · exact ok_some (lp_inr ⟨pb1, h1.1.2.1, fun _ => h1⟩)
theorem T_X12_every {rec : mG → Option (Int32 × mG)} {s : mG} (h : PE s) (hrec : ∀ s', PE s' → s'.1 88 23 = s.1 88 23 → ok (rec s') (PO s')) : ok (F_X12_every rec s) (PO s) := by
  unfold F_X12_every
  refine ok_b2 (hrec s h rfl) (fun v3 s2 hq => ?_)
  have h2 : PO s (v3, s2) := hq
  clear hq
  refine ok_ite (fun _ => ok_some (PO_no h2.2.1)) (fun c => ?_)
  unfold F_X12_every_L9
  refine ok_whl (LQ s) (fun v => mUp (v.1 88 18)) (h2.2.2 c) (fun s1 h1 => ?_)
  show ok (F_X12_every_B9 rec s1) _
  unfold F_X12_every_B9
  refine ok_ite (fun c => ?_) (fun _ => ok_some (lp_inr ⟨pb1, h1.1.2.1, fun _ => h1⟩))
  have ht := tok_ne c (by decide)
  refine ok_b1 (T_X12_next0 (PI_P0 h1.1.2.2.1)) (fun s8 h8 => ?_)
  have g8 : HH s s8 1 (0 + 1) := HH_nx1 h1.1 h8 ht
  have p8 : PE s8 := HH_PE g8 (by decide) h
  have d8 : s8.1 88 23 = s.1 88 23 := (h8.1.2 23 (by decide) (by decide) (by decide) (by decide)).trans h1.2
  refine ok_b2 (hrec s8 p8 d8) (fun v12 s11 hq => ?_)
  have h11 : PO s8 (v12, s11) := hq
  clear hq
  refine ok_ite (fun _ => ok_some (lp_inr (PO_no (RE_tr g8.2.1 h11.2.1)))) (fun c => ?_)
  have k11 := h11.2.2 c
  have g11 : HH s s11 (1 + 1) (0 + 1 + 0) := HH_tr g8 k11.1
  have b := HH_st g11 (by decide) h
  refine ok_b1 (T_X12_lay b.1 b.2) (fun s15 l15 => ?_)
  have g15 := HH_lay g11 l15 (stp_bin (by decide) (by decide) (by decide))
  exact ok_some (lp_inl ⟨HH_weak g15 (by decide), (l15.2.1 23 (by decide)).trans (k11.2.trans d8)⟩ (LQ_m ht h1.1.2.2.1 h8 k11.1.2.2.2.2.2.1 l15))
theorem T_X12_any {rec : mG → Option (Int32 × mG)} {s : mG} (h : PE s) (hrec : ∀ s', PE s' → s'.1 88 23 = s.1 88 23 → ok (rec s') (PO s')) : ok (F_X12_any rec s) (PO s) := by
  unfold F_X12_any
  refine ok_b2 (T_X12_every h hrec) (fun v3 s2 hq => ?_)
  have h2 : PO s (v3, s2) := hq
  clear hq
  refine ok_ite (fun _ => ok_some (PO_no h2.2.1)) (fun c => ?_)
  unfold F_X12_any_L9
  refine ok_whl (LQ s) (fun v => mUp (v.1 88 18)) (h2.2.2 c) (fun s1 h1 => ?_)
  show ok (F_X12_any_B9 rec s1) _
  unfold F_X12_any_B9
  refine ok_ite (fun c => ?_) (fun _ => ok_some (lp_inr ⟨pb1, h1.1.2.1, fun _ => h1⟩))
  have ht := tok_ne c (by decide)
  refine ok_b1 (T_X12_next0 (PI_P0 h1.1.2.2.1)) (fun s8 h8 => ?_)
  have g8 : HH s s8 1 (0 + 1) := HH_nx1 h1.1 h8 ht
  have p8 : PE s8 := HH_PE g8 (by decide) h
  have d8 : s8.1 88 23 = s.1 88 23 := (h8.1.2 23 (by decide) (by decide) (by decide) (by decide)).trans h1.2
  refine ok_b2 (T_X12_every p8 (fun s' p' e' => hrec s' p' (e'.trans d8))) (fun v12 s11 hq => ?_)
  have h11 : PO s8 (v12, s11) := hq
  clear hq
  refine ok_ite (fun _ => ok_some (lp_inr (PO_no (RE_tr g8.2.1 h11.2.1)))) (fun c => ?_)
  have k11 := h11.2.2 c
  have g11 : HH s s11 (1 + 1) (0 + 1 + 0) := HH_tr g8 k11.1
  have b := HH_st g11 (by decide) h
  refine ok_b1 (T_X12_lay b.1 b.2) (fun s15 l15 => ?_)
  have g15 := HH_lay g11 l15 (stp_bin (by decide) (by decide) (by decide))
  exact ok_some (lp_inl ⟨HH_weak g15 (by decide), (l15.2.1 23 (by decide)).trans (k11.2.trans d8)⟩ (LQ_m ht h1.1.2.2.1 h8 k11.1.2.2.2.2.2.1 l15))
theorem T_X12_opens {s : mG} (h : PE s) (ht : s.1 88 17 ≠ 0) : ok (F_X12_opens s) (fun τ => PB τ.1 ∧ RE s τ.2 ∧ (¬ τ.1 = 0 → (s.1 88 23).toInt ≠ 8 ∧ HH s τ.2 0 1 ∧ τ.2.1 88 23 = s.1 88 23 + ci 1)) := by
  unfold F_X12_opens
  refine ok_ite (fun _ => ?_) (fun c => ?_)
  · refine ok_b2 T_X12_bad (fun v s' hq => ?_)
    have hv : v = ci 0 := hq.1
    have hr : RE s s' := hq.2
    subst hv
    rw [if_pos (show ci 0 = 0 ∨ ci 0 = 1 from pb0)]
    exact ok_some ⟨pb0, hr, fun q => absurd z0 q⟩
  · have c8' := r_ne (rfl : (s.1 88 23).toInt = _) (by decide : (c8 8).toInt = 8) c
    extract_lets +onlyGivenNames s6
    have h6 : HH s s6 0 0 := HH_23 (HH_refl h.1 h.2.1)
    have e17 : s6.1 88 17 = s.1 88 17 := mu_cellP (by omega)
    have e23 : s6.1 88 23 = s.1 88 23 + ci 1 := mu_sameP
    clear_value s6
    refine ok_b1 (T_X12_next0 (PI_P0 h6.2.2.1)) (fun s8 h8 => ?_)
    have g8 := HH_nx1 h6 h8 (by rw [e17]; exact ht)
    exact ok_some ⟨pb1, g8.2.1, fun _ => ⟨c8', g8, (h8.1.2 23 (by decide) (by decide) (by decide) (by decide)).trans e23⟩⟩
theorem a1s1 (x : Int32) : x + ci 1 - ci 1 = x := Int32.add_sub_cancel x (ci 1)
theorem one_147 {rec : mG → Option (Int32 × mG)} {y0 : Int32} {s s1 : mG} (h : PE s) (h1 : LQ s s1) (ht : s1.1 88 17 ≠ 0) (hy : y0 = c8 27 ∨ y0 = c8 28 ∨ y0 = c8 29) : ok (F_X12_oneTest_147 rec y0 s1) (PO s) := by
  unfold F_X12_oneTest_147
  refine ok_ite (fun _ => bad_PO h1.1.2.1) (fun _ => ?_)
  refine ok_b1 (T_X12_next0 (PI_P0 h1.1.2.2.1)) (fun s8 h8 => ?_)
  have g8 : HH s s8 1 (0 + 1) := HH_nx1 h1.1 h8 ht
  have p8 : PE s8 := HH_PE g8 (by decide) h
  have d8 : s8.1 88 23 = s.1 88 23 := (h8.1.2 23 (by decide) (by decide) (by decide) (by decide)).trans h1.2
  refine ok_b2 (T_X12_sumUp p8) (fun v12 s11 hq => ?_)
  have h11 : PO s8 (v12, s11) := hq
  clear hq
  refine ok_ite (fun _ => ok_some (PO_no (RE_tr g8.2.1 h11.2.1))) (fun c => ?_)
  have k11 := h11.2.2 c
  have g11 : HH s s11 (1 + 1) (0 + 1 + 0) := HH_tr g8 k11.1
  have b := HH_st g11 (by decide) h
  refine ok_b1 (T_X12_lay b.1 b.2) (fun s15 l15 => ?_)
  have hs : ∀ h, stpv y0 (ci 0) (h + 2) = some (h + 1) := by
    rcases hy with e | e | e
    · rw [e]; exact stp_bin (by decide) (by decide) (by decide)
    · rw [e]; exact stp_bin (by decide) (by decide) (by decide)
    · rw [e]; exact stp_bin (by decide) (by decide) (by decide)
  have g15 := HH_lay g11 l15 hs
  exact ok_some ⟨pb1, g15.2.1, fun _ => ⟨HH_weak g15 (by decide), (l15.2.1 23 (by decide)).trans (k11.2.trans d8)⟩⟩
theorem T_X12_oneTest {rec : mG → Option (Int32 × mG)} {s : mG} (h : PE s) (hrec : (s.1 88 23).toInt ≠ 8 → ∀ s', PE s' → s'.1 88 23 = s.1 88 23 + ci 1 → ok (rec s') (PO s')) : ok (F_X12_oneTest rec s) (PO s) := by
  unfold F_X12_oneTest F_X12_oneTest_23 F_X12_oneTest_78
  refine ok_ite (fun c => ?_) (fun _ => ok_ite (fun c => ?_) (fun _ => ?_))
  · refine ok_b2 (T_X12_opens h (tok_ne c (by decide))) (fun v4 s3 hq => ?_)
    obtain ⟨_, h3, k3⟩ := hq
    refine ok_ite (fun _ => ok_some (PO_no h3)) (fun c4 => ?_)
    obtain ⟨k1, k2, k3⟩ := k3 c4
    have k2' : HH s s3 0 1 := k2
    have k3' : s3.1 88 23 = s.1 88 23 + ci 1 := k3
    refine ok_b2 (hrec k1 s3 (HH_PE k2' (by decide) h) k3') (fun v8 s7 hq => ?_)
    have h7 : PO s3 (v8, s7) := hq
    clear hq
    refine ok_ite (fun _ => ok_some (PO_no (RE_tr k2'.2.1 h7.2.1))) (fun c8' => ?_)
    have q7 := h7.2.2 c8'
    extract_lets +onlyGivenNames s10
    have g10 : HH s s10 (0 + 1) (1 + 0) := HH_23 (HH_tr k2' q7.1)
    have e10 : s10.1 88 23 = s7.1 88 23 - ci 1 := mu_sameP
    clear_value s10
    have b := HH_st g10 (by decide) h
    refine ok_b1 (T_X12_lay b.1 b.2) (fun s12 l12 => ?_)
    have g12 := HH_lay (d' := 1) g10 l12 (fun h => stp_not h)
    refine ok_some ⟨pb1, g12.2.1, fun _ => ⟨HH_weak g12 (by decide), ?_⟩⟩
    rw [show (ci 1, s12).2 = s12 from rfl, l12.2.1 23 (by decide), e10, q7.2, k3', a1s1]
  · refine ok_b2 (T_X12_opens h (tok_ne c (by decide))) (fun v16 s15 hq => ?_)
    obtain ⟨_, h3, k3⟩ := hq
    refine ok_ite (fun _ => ok_some (PO_no h3)) (fun c4 => ?_)
    obtain ⟨k1, k2, k3⟩ := k3 c4
    have k2' : HH s s15 0 1 := k2
    have k3' : s15.1 88 23 = s.1 88 23 + ci 1 := k3
    refine ok_b2 (T_X12_any (HH_PE k2' (by decide) h) (fun s' p' e' => hrec k1 s' p' (e'.trans k3'))) (fun v20 s19 hq => ?_)
    have h7 : PO s15 (v20, s19) := hq
    clear hq
    refine ok_ite (fun _ => ok_some (PO_no (RE_tr k2'.2.1 h7.2.1))) (fun c8' => ?_)
    have q7 := h7.2.2 c8'
    have g19 : HH s s19 (0 + 1) (1 + 0) := HH_tr k2' q7.1
    refine ok_b2 (T_X12_need (PI_P0 g19.2.2.1)) (fun v24 s23 hq => ?_)
    obtain ⟨_, h23, k23⟩ := hq
    have h23' : RE s19 s23 := h23
    refine ok_ite (fun _ => ok_some (PO_no (RE_tr g19.2.1 h23'))) (fun c9 => ?_)
    have n23 : NX s19 s23 := (k23 c9).1
    have g23 := HH_nx0 g19 n23
    refine ok_some ⟨pb1, ?_, fun _ => ⟨HH_weak (HH_23 g23) (by decide), ?_⟩⟩
    · exact RE_tr g23.2.1 (RE_mu (by unfold kE; omega))
    · show (mu s23.1 88 23 (s23.1 88 23 - ci 1)) 88 23 = s.1 88 23
      rw [mu_same, n23.1.2 23 (by decide) (by decide) (by decide) (by decide), q7.2, k3', a1s1]
  · refine ok_b2 (T_X12_sumUp h) (fun v29 s28 hq => ?_)
    have h28 : PO s (v29, s28) := hq
    clear hq
    refine ok_ite (fun _ => ok_some (PO_no h28.2.1)) (fun c => ?_)
    have k28 : LQ s s28 := h28.2.2 c
    refine ok_ite (fun c => one_147 h k28 (tok_ne c (by decide)) (Or.inl rfl)) (fun _ => ?_)
    refine ok_ite (fun c => one_147 h k28 (tok_ne c (by decide)) (Or.inr (Or.inl rfl))) (fun _ => ?_)
    refine ok_ite (fun c => one_147 h k28 (tok_ne c (by decide)) (Or.inr (Or.inr rfl))) (fun _ => ?_)
    unfold F_X12_oneTest_147
    rw [if_pos rfl]
    exact bad_PO k28.1.2.1
theorem TQ_one : ∀ (n : Nat) (s : mG), PE s → 0 ≤ (s.1 88 23).toInt → (s.1 88 23).toInt ≤ 8 → 9 ≤ (s.1 88 23).toInt + n → ok (Q_X12_oneTest n s) (PO s) := by
  intro n
  induction n with
  | zero => intro s _ h0 h1 h2; omega
  | succ n ih =>
    intro s hp h0 h1 h2
    show ok (F_X12_oneTest (Q_X12_oneTest n) s) (PO s)
    refine T_X12_oneTest hp (fun hne s' hp' hd => ?_)
    have e : (s'.1 88 23).toInt = (s.1 88 23).toInt + 1 := by rw [hd]; exact t_up (by omega)
    exact ih s' hp' (by omega) (by omega) (by omega)
