/-! THE REFERENCE READS A TEXT: signs and shifts -/
def RR (s s' : mG) : Prop := (∀ j, j ≠ 88 → j ≠ 94 → s'.1 j = s.1 j) ∧ (∀ k, (k < 13 ∨ k = 15) → s'.1 88 k = s.1 88 k)
theorem RR_refl {s : mG} : RR s s := ⟨fun _ _ _ => rfl, fun _ _ => rfl⟩
theorem RR_tr {s s' s2 : mG} (h : RR s s') (k : RR s' s2) : RR s s2 := ⟨fun j h1 h2 => (k.1 j h1 h2).trans (h.1 j h1 h2), fun i h1 => (k.2 i h1).trans (h.2 i h1)⟩
theorem RR_RN {s s' : mG} (h : RN s s') : RR s s' := ⟨fun j h1 _ => h.1 j h1, fun k hk => h.2 k (by omega) (by omega) (by omega) (by omega)⟩
theorem RR_mu {s : mG} {k : Nat} {v : Int32} (hk : ¬ (k < 13 ∨ k = 15)) : RR s (mu s.1 88 k v, s.2) := ⟨fun j h1 _ => mu_rowP h1, fun i hi => mu_cellP (Or.inr fun e => hk (e ▸ hi))⟩
theorem RR_94 {s : mG} {k : Nat} {v : Int32} : RR s (mu s.1 94 k v, s.2) := ⟨fun j _ h2 => mu_rowP h2, fun i _ => mu_cellP (by omega)⟩
theorem RT_RR {s s' : mG} (h : RR s s') : RT s s' := ⟨fun j h1 h2 => h.1 j h2 (by omega), h.2 3 (by omega), h.2 4 (by omega), h.2 15 (by omega)⟩
/-- nothing was read -/
def RB (s s' : mG) : Prop := RR s s' ∧ s'.1 94 = s.1 94 ∧ s'.1 88 14 = s.1 88 14
theorem T_X12_badR {a1 : Int32} {s : mG} : ok (F_X12_bad a1 s) (fun τ => τ.1 = ci 0 ∧ RB s τ.2) := by
  unfold F_X12_bad
  exact ok_some ⟨rfl, RR_tr (RR_mu (by omega)) (RR_mu (by omega)), rfl, rfl⟩
theorem RB_RN {s s' : mG} (h : RN s s') : RB s s' := ⟨RR_RN h, h.1 94 (by decide), h.2 14 (by decide) (by decide) (by decide) (by decide)⟩
theorem T_X12_needR {a1 : Int32} {s : mG} (h : PI s) (ha : ¬ a1 = 0) : ok (F_X12_need a1 s) (fun τ => PB τ.1 ∧ RB s τ.2 ∧ (¬ τ.1 = 0 → PI τ.2 ∧ (s.1 88 18).toInt < (τ.2.1 88 18).toInt)) := by
  unfold F_X12_need
  refine ok_ite (fun c => ?_) (fun _ => ?_)
  · refine ok_b1 (T_X12_next0 (PI_P0 h)) (fun s3 h3 => ?_)
    have a1' := h3.2.2
    have a2 := h.2.2.2.2 (tok_ne c ha)
    exact ok_some ⟨pb1, RB_RN h3.1, fun _ => ⟨h3.2.1, show (s.1 88 18).toInt < (s3.1 88 18).toInt by omega⟩⟩
  · refine ok_b2 T_X12_badR (fun v s' hq => ?_)
    have hv : v = ci 0 := hq.1
    have hr : RB s s' := hq.2
    subst hv
    rw [if_pos (show ci 0 = 0 ∨ ci 0 = 1 from pb0)]
    exact ok_some ⟨pb0, hr, fun q => absurd z0 q⟩
theorem T_X12_number {a1 a2 : Int32} {s : mG} (h : PI s) : ok (F_X12_number a1 a2 s) (fun τ => PB τ.1 ∧ RB s τ.2 ∧ (¬ τ.1 = 0 → PI τ.2 ∧ (a1.toInt ≤ (τ.2.1 88 25).toInt ∧ (τ.2.1 88 25).toInt ≤ a2.toInt) ∧ (s.1 88 18).toInt ≤ (τ.2.1 88 18).toInt)) := by
  have bad : ∀ x, ok (b2 (F_X12_bad x s) fun v s' => if v = 0 ∨ v = 1 then some (v, s') else none) (fun τ => PB τ.1 ∧ RB s τ.2 ∧ (¬ τ.1 = 0 → PI τ.2 ∧ (a1.toInt ≤ (τ.2.1 88 25).toInt ∧ (τ.2.1 88 25).toInt ≤ a2.toInt) ∧ (s.1 88 18).toInt ≤ (τ.2.1 88 18).toInt)) := by
    intro x
    refine ok_b2 T_X12_badR (fun v s' hq => ?_)
    have hv : v = ci 0 := hq.1
    have hr : RB s s' := hq.2
    subst hv
    rw [if_pos (show ci 0 = 0 ∨ ci 0 = 1 from pb0)]
    exact ok_some ⟨pb0, hr, fun q => absurd z0 q⟩
  unfold F_X12_number
  refine ok_ite (fun _ => ?_) (fun _ => bad _)
  rw [F_isIn, b1_some]
  refine ok_ite (fun _ => bad _) (fun c => ?_)
  have w := wi_f c
  extract_lets +onlyGivenNames s9
  have r9 : ∀ j, j ≠ 88 → s9.1 j = s.1 j := fun j hj => mu_rowP hj
  have c9 : ∀ k, k ≠ 25 → s9.1 88 k = s.1 88 k := fun k hk => mu_cellP (Or.inr hk)
  have v9 : s9.1 88 25 = s.1 88 19 := mu_sameP
  clear_value s9
  have p9 : PI s9 := by
    unfold PI
    rw [c9 15 (by decide), c9 16 (by decide), c9 17 (by decide), c9 18 (by decide)]
    exact h
  refine ok_b1 (T_X12_next0 (PI_P0 p9)) (fun s11 h11 => ?_)
  have b9 : RB s s9 := ⟨⟨fun j h1 _ => r9 j h1, fun k hk => c9 k (by omega)⟩, r9 94 (by decide), c9 14 (by decide)⟩
  have b11 := RB_RN h11.1
  have e25 : s11.1 88 25 = s.1 88 19 := (h11.1.2 25 (by decide) (by decide) (by decide) (by decide)).trans v9
  have t1 := h11.2.2
  have t2 := p9.2.2.1
  rw [c9 18 (by decide)] at t2
  refine ok_some ⟨pb1, ⟨RR_tr b9.1 b11.1, b11.2.1.trans b9.2.1, b11.2.2.trans b9.2.2⟩, fun _ => ⟨h11.2.1, by rw [e25]; exact w, show (s.1 88 18).toInt ≤ (s11.1 88 18).toInt by omega⟩⟩
/-- one cell of the row was told -/
def RD (s s' : mG) (n : Nat) : Prop := RR s s' ∧ (∀ j, j ≠ n → s'.1 94 j = s.1 94 j) ∧ s'.1 88 14 = s.1 88 14
theorem RD_RB {s s' : mG} {n : Nat} (h : RB s s') : RD s s' n := ⟨h.1, fun j _ => congrFun h.2.1 j, h.2.2⟩
theorem T_X12_told {a1 a2 a3 a4 : Int32} {s : mG} {n : Nat} (h : PI s) (hn : a1.toInt = (n : Int)) (hn48 : n < 48) (ha : ¬ a2 = 0) : ok (F_X12_told a1 a2 a3 a4 s) (fun τ => PB τ.1 ∧ RD s τ.2 n ∧ (¬ τ.1 = 0 → PI τ.2 ∧ (a3.toInt ≤ (τ.2.1 94 n).toInt ∧ (τ.2.1 94 n).toInt ≤ a4.toInt) ∧ (s.1 88 18).toInt < (τ.2.1 88 18).toInt)) := by
  unfold F_X12_told F_X12_told_18
  refine ok_b2 (T_X12_needR h ha) (fun v3 s2 hq => ?_)
  obtain ⟨_, q2, q3⟩ := hq
  have k2 : RB s s2 := q2
  have k3 : ¬ v3 = 0 → PI s2 ∧ (s.1 88 18).toInt < (s2.1 88 18).toInt := q3
  clear q2 q3
  refine ok_ite (fun _ => ok_some ⟨pb0, RD_RB k2, fun q => absurd z0 q⟩) (fun c => ?_)
  obtain ⟨p2, t2⟩ := k3 c
  refine ok_b2 (T_X12_number p2) (fun v7 s6 hq => ?_)
  obtain ⟨_, q2, q3⟩ := hq
  have m2 : RB s2 s6 := q2
  have m3 : ¬ v7 = 0 → PI s6 ∧ (a3.toInt ≤ (s6.1 88 25).toInt ∧ (s6.1 88 25).toInt ≤ a4.toInt) ∧ (s2.1 88 18).toInt ≤ (s6.1 88 18).toInt := q3
  clear q2 q3
  have b6 : RB s s6 := ⟨RR_tr k2.1 m2.1, m2.2.1.trans k2.2.1, m2.2.2.trans k2.2.2⟩
  refine ok_ite (fun _ => ok_some ⟨pb0, RD_RB b6, fun q => absurd z0 q⟩) (fun c => ?_)
  obtain ⟨p6, w6, t6⟩ := m3 c
  refine ok_nn (ix_ok hn (by omega) (by omega)) ?_
  rw [r_nat hn]
  extract_lets +onlyGivenNames s10
  have r10 : RR s6 s10 := RR_94
  have c10 : ∀ j, j ≠ n → s10.1 94 j = s6.1 94 j := fun j hj => mu_cellP (Or.inr hj)
  have v10 : s10.1 94 n = s6.1 88 25 := mu_sameP
  have e88 : s10.1 88 = s6.1 88 := mu_rowP (by decide)
  clear_value s10
  refine ok_some ⟨pb1, ⟨RR_tr b6.1 r10, fun j hj => (c10 j hj).trans (congrFun b6.2.1 j), by rw [show (ci 1, s10).2 = s10 from rfl, e88]; exact b6.2.2⟩, fun _ => ⟨?_, ?_, ?_⟩⟩
  · show PI s10
    unfold PI; rw [e88]; exact p6
  · show a3.toInt ≤ (s10.1 94 n).toInt ∧ (s10.1 94 n).toInt ≤ a4.toInt
    rw [v10]; exact w6
  · show (s.1 88 18).toInt < (s10.1 88 18).toInt
    rw [e88]; omega
theorem T_X12_aSign {s : mG} {r : Nat} (h : PI s) (hr : (s.1 88 14).toInt = (r : Int)) (hr6 : r < 6) : ok (F_X12_aSign s) (fun τ => PB τ.1 ∧ RR s τ.2 ∧ τ.2.1 88 14 = s.1 88 14 ∧ (∀ j, j < 2 * r → τ.2.1 94 j = s.1 94 j) ∧ (¬ τ.1 = 0 → PI τ.2 ∧ (∀ j, 2 * r ≤ j → j < 2 * r + 2 → 1 ≤ (τ.2.1 94 j).toInt ∧ (τ.2.1 94 j).toInt ≤ 999) ∧ (s.1 88 18).toInt < (τ.2.1 88 18).toInt)) := by
  unfold F_X12_aSign F_X12_aSign_63
  refine ok_b2 (T_X12_needR h (by decide)) (fun v3 s2 hq => ?_)
  obtain ⟨_, q2, q3⟩ := hq
  have k2 : RB s s2 := q2
  have k3 : ¬ v3 = 0 → PI s2 ∧ (s.1 88 18).toInt < (s2.1 88 18).toInt := q3
  clear q2 q3
  refine ok_ite (fun _ => ok_some ⟨pb0, k2.1, k2.2.2, fun j _ => congrFun k2.2.1 j, fun q => absurd z0 q⟩) (fun c => ?_)
  obtain ⟨p2, t2⟩ := k3 c
  have e2 : (s2.1 88 14).toInt = (r : Int) := by rw [k2.2.2]; exact hr
  refine ok_b2 (T_X12_told (n := 2 * r) p2 ((r_mul (by decide : (ci 2).toInt = 2) e2 (by omega) (by omega)).trans (by omega)) (by omega) (by decide)) (fun v7 s6 hq => ?_)
  obtain ⟨_, q2, q3⟩ := hq
  have m2 : RD s2 s6 (2 * r) := q2
  have m3 : ¬ v7 = 0 → PI s6 ∧ ((ci 1).toInt ≤ (s6.1 94 (2 * r)).toInt ∧ (s6.1 94 (2 * r)).toInt ≤ (c16 999).toInt) ∧ (s2.1 88 18).toInt < (s6.1 88 18).toInt := q3
  clear q2 q3
  have R6 : RR s s6 := RR_tr k2.1 m2.1
  have E6 : s6.1 88 14 = s.1 88 14 := m2.2.2.trans k2.2.2
  have K6 : ∀ j, j < 2 * r → s6.1 94 j = s.1 94 j := fun j hj => (m2.2.1 j (by omega)).trans (congrFun k2.2.1 j)
  refine ok_ite (fun _ => ok_some ⟨pb0, R6, E6, K6, fun q => absurd z0 q⟩) (fun c => ?_)
  obtain ⟨p6, w6, t6⟩ := m3 c
  rw [(by decide : (ci 1).toInt = 1), (by decide : (c16 999).toInt = 999)] at w6
  have e6 : (s6.1 88 14).toInt = (r : Int) := by rw [E6]; exact hr
  refine ok_b2 (T_X12_told (n := 2 * r + 1) p6 ((r_add (r_mul (by decide : (ci 2).toInt = 2) e6 (by omega) (by omega)) (by decide : (ci 1).toInt = 1) (by omega) (by omega)).trans (by omega)) (by omega) (by decide)) (fun v11 s10 hq => ?_)
  obtain ⟨_, q2, q3⟩ := hq
  have n2 : RD s6 s10 (2 * r + 1) := q2
  have n3 : ¬ v11 = 0 → PI s10 ∧ ((ci 1).toInt ≤ (s10.1 94 (2 * r + 1)).toInt ∧ (s10.1 94 (2 * r + 1)).toInt ≤ (c16 999).toInt) ∧ (s6.1 88 18).toInt < (s10.1 88 18).toInt := q3
  clear q2 q3
  have R10 : RR s s10 := RR_tr R6 n2.1
  have E10 : s10.1 88 14 = s.1 88 14 := n2.2.2.trans E6
  have K10 : ∀ j, j < 2 * r → s10.1 94 j = s.1 94 j := fun j hj => (n2.2.1 j (by omega)).trans (K6 j hj)
  refine ok_ite (fun _ => ok_some ⟨pb0, R10, E10, K10, fun q => absurd z0 q⟩) (fun c => ?_)
  obtain ⟨p10, w10, t10⟩ := n3 c
  rw [(by decide : (ci 1).toInt = 1), (by decide : (c16 999).toInt = 999)] at w10
  refine ok_b2 (T_X12_needR p10 (by decide)) (fun v15 s14 hq => ?_)
  obtain ⟨_, q2, q3⟩ := hq
  have o2 : RB s10 s14 := q2
  have o3 : ¬ v15 = 0 → PI s14 ∧ (s10.1 88 18).toInt < (s14.1 88 18).toInt := q3
  clear q2 q3
  have R14 : RR s s14 := RR_tr R10 o2.1
  have E14 : s14.1 88 14 = s.1 88 14 := o2.2.2.trans E10
  have K14 : ∀ j, j < 2 * r → s14.1 94 j = s.1 94 j := fun j hj => (congrFun o2.2.1 j).trans (K10 j hj)
  refine ok_ite (fun _ => ok_some ⟨pb0, R14, E14, K14, fun q => absurd z0 q⟩) (fun c => ?_)
  obtain ⟨p14, t14⟩ := o3 c
  refine ok_some ⟨pb1, R14, E14, K14, fun _ => ⟨p14, fun j h1 h2 => ?_, show (s.1 88 18).toInt < (s14.1 88 18).toInt by omega⟩⟩
  show 1 ≤ (s14.1 94 j).toInt ∧ (s14.1 94 j).toInt ≤ 999
  rw [congrFun o2.2.1 j]
  by_cases e : j = 2 * r
  · subst e; rw [n2.2.1 _ (by omega)]; exact w6
  · have e' : j = 2 * r + 1 := by omega
    subst e'; exact w10
theorem T_X12_aShift {s : mG} {r : Nat} (h : PI s) (hr : (s.1 88 14).toInt = (r : Int)) (hr12 : r < 12) : ok (F_X12_aShift s) (fun τ => PB τ.1 ∧ RR s τ.2 ∧ τ.2.1 88 14 = s.1 88 14 ∧ (¬ τ.1 = 0 → PI τ.2 ∧ (s.1 88 18).toInt < (τ.2.1 88 18).toInt)) := by
  unfold F_X12_aShift F_X12_aShift_90
  refine ok_b2 (T_X12_told (n := 4 * r) h ((r_mul (by decide : (ci 4).toInt = 4) hr (by omega) (by omega)).trans (by omega)) (by omega) (by decide)) (fun v3 s2 hq => ?_)
  obtain ⟨_, q2, q3⟩ := hq
  have m2 : RR s s2 := q2.1
  have e2 : s2.1 88 14 = s.1 88 14 := q2.2.2
  refine ok_ite (fun _ => ok_some ⟨pb0, m2, e2, fun q => absurd z0 q⟩) (fun c => ?_)
  obtain ⟨u1, _, u3⟩ := q3 c
  have p2 : PI s2 := u1
  have t2 : (s.1 88 18).toInt < (s2.1 88 18).toInt := u3
  clear q2 q3 u1 u3
  refine ok_b2 (T_X12_told (n := 4 * r + 1) p2 ((r_add (r_mul (by decide : (ci 4).toInt = 4) (by rw [e2]; exact hr : (s2.1 88 14).toInt = (r : Int)) (by omega) (by omega)) (by decide : (ci 1).toInt = 1) (by omega) (by omega)).trans (by omega)) (by omega) (by decide)) (fun v7 s6 hq => ?_)
  obtain ⟨_, q2, q3⟩ := hq
  have m6 : RR s s6 := RR_tr m2 q2.1
  have e6 : s6.1 88 14 = s.1 88 14 := q2.2.2.trans e2
  refine ok_ite (fun _ => ok_some ⟨pb0, m6, e6, fun q => absurd z0 q⟩) (fun c => ?_)
  obtain ⟨u1, _, u3⟩ := q3 c
  have p6 : PI s6 := u1
  have t6 : (s2.1 88 18).toInt < (s6.1 88 18).toInt := u3
  clear q2 q3 u1 u3
  refine ok_b2 (T_X12_told (n := 4 * r + 2) p6 ((r_add (r_mul (by decide : (ci 4).toInt = 4) (by rw [e6]; exact hr : (s6.1 88 14).toInt = (r : Int)) (by omega) (by omega)) (by decide : (ci 2).toInt = 2) (by omega) (by omega)).trans (by omega)) (by omega) (by decide)) (fun v11 s10 hq => ?_)
  obtain ⟨_, q2, q3⟩ := hq
  have m10 : RR s s10 := RR_tr m6 q2.1
  have e10 : s10.1 88 14 = s.1 88 14 := q2.2.2.trans e6
  refine ok_ite (fun _ => ok_some ⟨pb0, m10, e10, fun q => absurd z0 q⟩) (fun c => ?_)
  obtain ⟨u1, _, u3⟩ := q3 c
  have p10 : PI s10 := u1
  have t10 : (s6.1 88 18).toInt < (s10.1 88 18).toInt := u3
  clear q2 q3 u1 u3
  refine ok_b2 (T_X12_told (n := 4 * r + 3) p10 ((r_add (r_mul (by decide : (ci 4).toInt = 4) (by rw [e10]; exact hr : (s10.1 88 14).toInt = (r : Int)) (by omega) (by omega)) (by decide : (ci 3).toInt = 3) (by omega) (by omega)).trans (by omega)) (by omega) (by decide)) (fun v15 s14 hq => ?_)
  obtain ⟨_, q2, q3⟩ := hq
  have m14 : RR s s14 := RR_tr m10 q2.1
  have e14 : s14.1 88 14 = s.1 88 14 := q2.2.2.trans e10
  refine ok_ite (fun _ => ok_some ⟨pb0, m14, e14, fun q => absurd z0 q⟩) (fun c => ?_)
  obtain ⟨u1, _, u3⟩ := q3 c
  have p14 : PI s14 := u1
  have t14 : (s10.1 88 18).toInt < (s14.1 88 18).toInt := u3
  clear q2 q3 u1 u3
  refine ok_b2 (T_X12_needR p14 (by decide)) (fun v19 s18 hq => ?_)
  obtain ⟨_, q2, q3⟩ := hq
  have m18 : RR s s18 := RR_tr m14 q2.1
  have e18 : s18.1 88 14 = s.1 88 14 := q2.2.2.trans e14
  refine ok_ite (fun _ => ok_some ⟨pb0, m18, e18, fun q => absurd z0 q⟩) (fun c => ?_)
  obtain ⟨u1, u3⟩ := q3 c
  have p18 : PI s18 := u1
  have t18 : (s14.1 88 18).toInt < (s18.1 88 18).toInt := u3
  exact ok_some ⟨pb1, m18, e18, fun _ => ⟨p18, show (s.1 88 18).toInt < (s18.1 88 18).toInt by omega⟩⟩
/-- rows, read so far; k is the text's kind -/
def RSx (k : Int32) (s : mG) : Prop := PI s ∧ 0 ≤ (s.1 88 14).toInt ∧ (s.1 88 14).toInt ≤ 12 ∧ (k = ci 1 → (s.1 88 14).toInt ≤ 6 ∧ ∀ j : Nat, (j : Int) < 2 * (s.1 88 14).toInt → 1 ≤ (s.1 94 j).toInt ∧ (s.1 94 j).toInt ≤ 999)
theorem T_X12_readsRows {s : mG} (h : PI s) : ok (F_X12_readsRows s) (fun τ => PB τ.1 ∧ RT s τ.2 ∧ (¬ τ.1 = 0 → RSx (s.1 88 11) τ.2)) := by
  unfold F_X12_readsRows
  extract_lets +onlyGivenNames s1
  have r1 : RR s s1 := RR_mu (by omega)
  have c1 : ∀ k, k ≠ 14 → s1.1 88 k = s.1 88 k := fun k hk => mu_cellP (Or.inr hk)
  have v1 : s1.1 88 14 = ci 0 := mu_sameP
  clear_value s1
  have z : (ci 0).toInt = 0 := by decide
  have p1 : PI s1 := by
    unfold PI
    rw [c1 15 (by decide), c1 16 (by decide), c1 17 (by decide), c1 18 (by decide)]
    exact h
  have L1 : RSx (s.1 88 11) s1 := ⟨p1, by rw [v1, z]; omega, by rw [v1, z]; omega, fun _ => ⟨by rw [v1, z]; omega, fun j hj => by rw [v1, z] at hj; omega⟩⟩
  unfold F_X12_readsRows_L7
  refine ok_whl (fun v => PB v.1 ∧ RR s v.2 ∧ (¬ v.1 = 0 → RSx (s.1 88 11) v.2)) (fun v => mGd v.1 v.2) ⟨pb1, r1, fun _ => L1⟩ (fun v hv => ?_)
  obtain ⟨x1, s3⟩ := v
  obtain ⟨q1, q2, q3⟩ := hv
  have k1 : PB x1 := q1
  have k2 : RR s s3 := q2
  have k3 : ¬ x1 = 0 → RSx (s.1 88 11) s3 := q3
  clear q1 q2 q3
  show ok (F_X12_readsRows_B7 x1 s3) _
  unfold F_X12_readsRows_B7 F_X12_readsRows_115
  have fin : ok (b1 (if x1 = 0 ∨ x1 = 1 then some (x1, s3) else none) fun τ => some (Sum.inr τ)) (lpost (fun (v : Int32 × mG) => PB v.1 ∧ RR s v.2 ∧ (¬ v.1 = 0 → RSx (s.1 88 11) v.2)) (fun v => mGd v.1 v.2) (mGd x1 s3) (fun τ => PB τ.1 ∧ RT s τ.2 ∧ (¬ τ.1 = 0 → RSx (s.1 88 11) τ.2))) := by
    rw [if_pos (show x1 = 0 ∨ x1 = 1 from k1)]
    exact ok_some (lp_inr ⟨k1, RT_RR k2, k3⟩)
  refine ok_ite (fun _ => fin) (fun c0 => ?_)
  refine ok_ite (fun _ => fin) (fun c17 => ?_)
  obtain ⟨w1, w2, w3, w4⟩ := k3 c0
  obtain ⟨n, en⟩ : ∃ n : Nat, (s3.1 88 14).toInt = (n : Int) := ⟨(s3.1 88 14).toInt.toNat, by omega⟩
  have m0 : mGd x1 s3 = mUp (s3.1 88 18) + 1 := if_neg c0
  have e11 : s3.1 88 11 = s.1 88 11 := k2.2 11 (by omega)
  have bad : ∀ x, ok (b2 (F_X12_bad x s3) fun v s' => if v = 0 ∨ v = 1 then some (Sum.inr (v, s')) else none) (lpost (fun (v : Int32 × mG) => PB v.1 ∧ RR s v.2 ∧ (¬ v.1 = 0 → RSx (s.1 88 11) v.2)) (fun v => mGd v.1 v.2) (mGd x1 s3) (fun τ => PB τ.1 ∧ RT s τ.2 ∧ (¬ τ.1 = 0 → RSx (s.1 88 11) τ.2))) := by
    intro x
    refine ok_b2 T_X12_badR (fun v s' hq => ?_)
    have hv : v = ci 0 := hq.1
    have hr : RB s3 s' := hq.2
    subst hv
    rw [if_pos (show ci 0 = 0 ∨ ci 0 = 1 from pb0)]
    exact ok_some (lp_inr ⟨pb0, RT_RR (RR_tr k2 hr.1), fun q => absurd z0 q⟩)
  have step : ∀ v s', PB v → RR s3 s' → s'.1 88 14 = s3.1 88 14 → (¬ v = 0 → PI s' ∧ (s3.1 88 18).toInt < (s'.1 88 18).toInt ∧ (n : Int) + 1 ≤ 12 ∧ (s.1 88 11 = ci 1 → (n : Int) + 1 ≤ 6 ∧ ∀ j : Nat, j < 2 * n + 2 → 1 ≤ (s'.1 94 j).toInt ∧ (s'.1 94 j).toInt ≤ 999)) → ok (F_X12_readsRows_93 v s') (lpost (fun (v : Int32 × mG) => PB v.1 ∧ RR s v.2 ∧ (¬ v.1 = 0 → RSx (s.1 88 11) v.2)) (fun v => mGd v.1 v.2) (mGd x1 s3) (fun τ => PB τ.1 ∧ RT s τ.2 ∧ (¬ τ.1 = 0 → RSx (s.1 88 11) τ.2))) := by
    intro v s' hb hR h14 hg
    unfold F_X12_readsRows_93 F_X12_readsRows_108
    refine ok_ite (fun cv => ?_) (fun cv => ?_)
    · refine ok_some (lp_inl ⟨hb, RR_tr k2 (RR_tr hR (RR_mu (by omega))), fun q => absurd cv q⟩ ?_)
      show mGd v _ < mGd x1 s3
      rw [m0, show mGd v (mu s'.1 88 14 (s'.1 88 14 + ci 0), s'.2) = 0 from if_pos cv]
      omega
    · obtain ⟨u1, u2, u3, u4⟩ := hg cv
      extract_lets +onlyGivenNames s10
      have rt : RR s' s10 := RR_mu (by omega)
      have cc : ∀ k, k ≠ 14 → s10.1 88 k = s'.1 88 k := fun k hk => mu_cellP (Or.inr hk)
      have rr : s10.1 94 = s'.1 94 := mu_rowP (by decide)
      have vv : s10.1 88 14 = s'.1 88 14 + ci 1 := mu_sameP
      clear_value s10
      have t14 : (s10.1 88 14).toInt = (n : Int) + 1 := by rw [vv, h14, t_up (by omega), en]
      have p10 : PI s10 := by
        unfold PI
        rw [cc 15 (by decide), cc 16 (by decide), cc 17 (by decide), cc 18 (by decide)]
        exact u1
      have L10 : RSx (s.1 88 11) s10 := ⟨p10, by omega, by omega, fun q => ⟨by have := (u4 q).1; omega, fun j hj => by rw [rr]; exact (u4 q).2 j (by omega)⟩⟩
      refine ok_some (lp_inl ⟨hb, RR_tr k2 (RR_tr hR rt), fun _ => L10⟩ ?_)
      show mGd v s10 < mGd x1 s3
      rw [m0, show mGd v s10 = mUp (s10.1 88 18) + 1 from if_neg cv, cc 18 (by decide)]
      have b1 := u1.2.2.1
      have b2 := u1.2.2.2.1
      have b3 := u1.1
      unfold mUp
      omega
  have go : ok (if s3.1 88 11 = ci 1 then F_X12_readsRows_65 (s3.1 88 14) (c8 6) s3 else F_X12_readsRows_65 (s3.1 88 14) (c8 12) s3) (lpost (fun (v : Int32 × mG) => PB v.1 ∧ RR s v.2 ∧ (¬ v.1 = 0 → RSx (s.1 88 11) v.2)) (fun v => mGd v.1 v.2) (mGd x1 s3) (fun τ => PB τ.1 ∧ RT s τ.2 ∧ (¬ τ.1 = 0 → RSx (s.1 88 11) τ.2))) := by
    unfold F_X12_readsRows_65
    refine ok_ite (fun c1 => ?_) (fun c1 => ?_)
    · obtain ⟨x6, x7⟩ := w4 (by rw [← e11]; exact c1)
      refine ok_ite (fun _ => bad _) (fun c6 => ?_)
      have c6' := r_ne en (by decide : (c8 6).toInt = 6) c6
      rw [if_pos c1]
      refine ok_b2 (T_X12_aSign (r := n) w1 en (by omega)) (fun v s' hq => ?_)
      obtain ⟨o1, o2, o3, o4, o5⟩ := hq
      have a1 : PB v := o1
      have a2 : RR s3 s' := o2
      have a3 : s'.1 88 14 = s3.1 88 14 := o3
      have a4 : ∀ j, j < 2 * n → s'.1 94 j = s3.1 94 j := o4
      have a5 : ¬ v = 0 → PI s' ∧ (∀ j, 2 * n ≤ j → j < 2 * n + 2 → 1 ≤ (s'.1 94 j).toInt ∧ (s'.1 94 j).toInt ≤ 999) ∧ (s3.1 88 18).toInt < (s'.1 88 18).toInt := o5
      clear o1 o2 o3 o4 o5
      refine step v s' a1 a2 a3 (fun hv => ?_)
      obtain ⟨y1, y2, y3⟩ := a5 hv
      refine ⟨y1, y3, by omega, fun _ => ⟨by omega, fun j hj => ?_⟩⟩
      by_cases e : j < 2 * n
      · rw [a4 j e]; exact x7 j (by omega)
      · exact y2 j (by omega) hj
    · refine ok_ite (fun _ => bad _) (fun c6 => ?_)
      have c6' := r_ne en (by decide : (c8 12).toInt = 12) c6
      rw [if_neg c1]
      refine ok_b2 (T_X12_aShift (r := n) w1 en (by omega)) (fun v s' hq => ?_)
      obtain ⟨o1, o2, o3, o5⟩ := hq
      have a1 : PB v := o1
      have a2 : RR s3 s' := o2
      have a3 : s'.1 88 14 = s3.1 88 14 := o3
      have a5 : ¬ v = 0 → PI s' ∧ (s3.1 88 18).toInt < (s'.1 88 18).toInt := o5
      clear o1 o2 o3 o5
      refine step v s' a1 a2 a3 (fun hv => ?_)
      obtain ⟨y1, y3⟩ := a5 hv
      exact ⟨y1, y3, by omega, fun q => absurd (e11.trans q) c1⟩
  unfold F_X12_readsRows_37
  exact ok_ite (fun _ => ok_ite (fun _ => go) (fun _ => bad _)) (fun _ => ok_ite (fun _ => go) (fun _ => bad _))
