/-! THE REFERENCE READS A TEXT: the lines of a law -/
def LO (s : mG) (i : Nat) : Prop := ∃ a b c : Nat, (c : Int) ≤ (s.1 88 13).toInt ∧ a ≤ b ∧ b ≤ c ∧ s.1 92 (4 * i) = cn a ∧ s.1 92 (4 * i + 1) = cn b ∧ s.1 92 (4 * i + 2) = cn c ∧ Rc (s.1 93) a (b - a) 0 1 ∧ (b = c ∨ Rc (s.1 93) b (c - b) 0 1)
theorem LO_mono {s s' : mG} {i : Nat} (h : LO s i) (hs : (s.1 88 13).toInt ≤ (s'.1 88 13).toInt) (h92 : ∀ k, k < 3 → s'.1 92 (4 * i + k) = s.1 92 (4 * i + k)) (h93 : ∀ j : Nat, (j : Int) < 2 * (s.1 88 13).toInt → s'.1 93 j = s.1 93 j) : LO s' i := by
  obtain ⟨a, b, c, q1, q2, q3, q4, q5, q6, q7, q8⟩ := h
  refine ⟨a, b, c, by omega, q2, q3, (h92 0 (by decide)).trans q4, (h92 1 (by decide)).trans q5, (h92 2 (by decide)).trans q6, Rc_congr _ _ _ _ (fun j _ hj => h93 j (by omega)) q7, ?_⟩
  rcases q8 with e | e
  · exact Or.inl e
  · exact Or.inr (Rc_congr _ _ _ _ (fun j _ hj => h93 j (by omega)) e)
theorem RT_RE {s s' : mG} (h : RE s s') : RT s s' := ⟨fun j h1 h2 => h.1 j h2 (by omega), h.2 3 (by unfold kE; omega), h.2 4 (by unfold kE; omega), h.2 15 (by unfold kE; omega)⟩
theorem PE_88 {s s' : mG} (h : s'.1 88 = s.1 88) (k : PE s) : PE s' := by
  unfold PE PI
  rw [h]; exact k
theorem cn_of {x : Int32} {n : Nat} (h : x.toInt = (n : Int)) (hn : n < 2147483648) : x = cn n := Int32.toInt_inj.mp (by rw [t_cn hn]; exact h)
/-- what a line leaves -/
def AL (s s' : mG) (n : Nat) : Prop := PE s' ∧ s'.1 88 12 = s.1 88 12 ∧ (∀ i, i < n + 1 → LO s' i)
theorem al_123 {s : mG} {n a b c : Nat} (h : PE s) (h12 : (s.1 88 12).toInt = (n : Int)) (hn : n < 16) (h13 : (s.1 88 13).toInt = (c : Int)) (ha : s.1 92 (4 * n) = cn a) (hb : s.1 92 (4 * n + 1) = cn b) (hab : a ≤ b) (hbc : b ≤ c) (r1 : Rc (s.1 93) a (b - a) 0 1) (r2 : b = c ∨ Rc (s.1 93) b (c - b) 0 1) (hl : ∀ i, i < n → LO s i) : ok (F_X12_aLine_123 s) (fun τ => PB τ.1 ∧ RT s τ.2 ∧ (¬ τ.1 = 0 → AL s τ.2 n ∧ (s.1 88 18).toInt ≤ (τ.2.1 88 18).toInt)) := by
  unfold F_X12_aLine_123
  refine ok_nn (ix_ok (r_add (r_mul (by decide : (ci 4).toInt = 4) h12 (by omega) (by omega)) (by decide : (ci 2).toInt = 2) (by omega) (by omega)) (by omega) (by omega)) ?_
  rw [r_nat2 (e := ((ci 4) * (s.1 88 12)) + (ci 2)) (m := 4 * n + 2) (r_add (r_mul (by decide : (ci 4).toInt = 4) h12 (by omega) (by omega)) (by decide : (ci 2).toInt = 2) (by omega) (by omega)) (by omega)]
  extract_lets +onlyGivenNames s34
  have row : ∀ j, j ≠ 92 → s34.1 j = s.1 j := fun j hj => mu_rowP hj
  have cell : ∀ k, k ≠ 4 * n + 2 → s34.1 92 k = s.1 92 k := fun k hk => mu_cellP (Or.inr hk)
  have val : s34.1 92 (4 * n + 2) = s.1 88 13 := mu_sameP
  clear_value s34
  have e88 : s34.1 88 = s.1 88 := row 88 (by decide)
  have e93 : s34.1 93 = s.1 93 := row 93 (by decide)
  have p34 : PE s34 := PE_88 e88 h
  have rt34 : RT s s34 := ⟨fun j h1 _ => row j (by omega), by rw [e88], by rw [e88], by rw [e88]⟩
  refine ok_b2 (T_X12_need (PI_P0 p34.1)) (fun v37 s36 hq => ?_)
  obtain ⟨q1, q2, q3⟩ := hq
  have k1 : PB v37 := q1
  have k2 : RE s34 s36 := q2
  have k3 : ¬ v37 = 0 → NX s34 s36 ∧ s34.1 88 17 = c16 159 := q3
  clear q1 q2 q3
  refine ok_pp (show v37 = 0 ∨ v37 = 1 from k1) (ok_some ⟨k1, RT_tr rt34 (RT_RE k2), fun hv => ?_⟩)
  obtain ⟨nx, _⟩ := k3 hv
  have n13 : s36.1 88 13 = s.1 88 13 := (nx.1.2 13 (by decide) (by decide) (by decide) (by decide)).trans (by rw [e88])
  have n12 : s36.1 88 12 = s.1 88 12 := (nx.1.2 12 (by decide) (by decide) (by decide) (by decide)).trans (by rw [e88])
  have n92 : s36.1 92 = s34.1 92 := nx.1.1 92 (by decide)
  have n93 : s36.1 93 = s.1 93 := (nx.1.1 93 (by decide)).trans e93
  have t1 := nx.2.2
  have t2 := p34.1.2.2.1
  have t3 := p34.2.2
  have e18 : s34.1 88 18 = s.1 88 18 := by rw [e88]
  have e13 : s34.1 88 13 = s.1 88 13 := by rw [e88]
  have w1 : (s.1 88 13).toInt ≤ (s36.1 88 18).toInt := by rw [e13] at t3; omega
  have w0 : 0 ≤ (s.1 88 13).toInt := by omega
  refine ⟨⟨⟨nx.2.1, by rw [n13]; exact w0, by rw [n13]; exact w1⟩, n12, fun i hi => ?_⟩, by rw [← e18]; show (s34.1 88 18).toInt ≤ (s36.1 88 18).toInt; omega⟩
  by_cases e : i = n
  · subst e
    refine ⟨a, b, c, by rw [n13]; omega, hab, hbc, ?_, ?_, ?_, by rw [n93]; exact r1, by rw [n93]; exact r2⟩
    · rw [n92, cell _ (by omega)]; exact ha
    · rw [n92, cell _ (by omega)]; exact hb
    · rw [n92, val]; exact cn_of h13 (by have := h.2.2; have := h.1.1; have := h.1.2.2.1; have := h.1.2.2.2.1; omega)
  · exact LO_mono (hl i (by omega)) (by rw [n13]; omega) (fun k hk => by rw [n92, cell _ (by omega)]) (fun j _ => by rw [n93])
theorem T_X12_aLine {s : mG} {n : Nat} (h : PE s) (h12 : (s.1 88 12).toInt = (n : Int)) (hn : n ≤ 16) (hl : ∀ i, i < n → LO s i) : ok (F_X12_aLine s) (fun τ => PB τ.1 ∧ RT s τ.2 ∧ (¬ τ.1 = 0 → n < 16 ∧ AL s τ.2 n ∧ (s.1 88 18).toInt < (τ.2.1 88 18).toInt)) := by
  have bad : ∀ x, ok (b2 (F_X12_bad x s) fun v s' => if v = 0 ∨ v = 1 then some (v, s') else none) (fun τ => PB τ.1 ∧ RT s τ.2 ∧ (¬ τ.1 = 0 → n < 16 ∧ AL s τ.2 n ∧ (s.1 88 18).toInt < (τ.2.1 88 18).toInt)) := by
    intro x
    refine ok_b2 T_X12_bad (fun v s' hq => ?_)
    have hv : v = ci 0 := hq.1
    have hr : RE s s' := hq.2
    subst hv
    rw [if_pos (show ci 0 = 0 ∨ ci 0 = 1 from pb0)]
    exact ok_some ⟨pb0, RT_RE hr, fun q => absurd z0 q⟩
  unfold F_X12_aLine
  rw [F_isIn, b1_some]
  refine ok_ite (fun _ => bad _) (fun cw => ?_)
  have w := isin_f (a := s.1 88 17) (by decide : (c8 20).toInt = 20) (by decide : (c8 25).toInt = 25) (wi_f cw)
  have ht : s.1 88 17 ≠ 0 := fun q => by rw [q, t_zero] at w; omega
  refine ok_ite (fun _ => bad _) (fun c16' => ?_)
  have c16'' := r_ne h12 (by decide : (c8 16).toInt = 16) c16'
  have hn : n < 16 := by omega
  have st0 := h.2.1
  have st1 := h.2.2
  have pa := h.1.2.2.2.2 ht
  have pb := h.1.1
  have pc := h.1.2.2.2.1
  extract_lets +onlyGivenNames s13
  have r13 : ∀ j, j ≠ 88 → s13.1 j = s.1 j := fun j hj => mu_rowP hj
  have c13 : ∀ k, k ≠ 23 → s13.1 88 k = s.1 88 k := fun k hk => mu_cellP (Or.inr hk)
  have d13 : s13.1 88 23 = ci 0 := mu_sameP
  clear_value s13
  rw [c13 12 (by decide)]
  refine ok_nn (ix_ok (r_add (r_mul (by decide : (ci 4).toInt = 4) h12 (by omega) (by omega)) (by decide : (ci 3).toInt = 3) (by omega) (by omega)) (by omega) (by omega)) ?_
  rw [r_nat2 (e := ((ci 4) * (s.1 88 12)) + (ci 3)) (m := 4 * n + 3) (r_add (r_mul (by decide : (ci 4).toInt = 4) h12 (by omega) (by omega)) (by decide : (ci 3).toInt = 3) (by omega) (by omega)) (by omega)]
  extract_lets +onlyGivenNames s15
  have r15 : ∀ j, j ≠ 92 → s15.1 j = s13.1 j := fun j hj => mu_rowP hj
  have c15 : ∀ k, k ≠ 4 * n + 3 → s15.1 92 k = s13.1 92 k := fun k hk => mu_cellP (Or.inr hk)
  clear_value s15
  have e15 : ∀ k, k ≠ 23 → s15.1 88 k = s.1 88 k := fun k hk => (congrFun (r15 88 (by decide)) k).trans (c13 k hk)
  have P15 : P0 s15 := by unfold P0; rw [e15 15 (by decide), e15 16 (by decide)]; exact ⟨h.1.1, by omega, h.1.2.2.2.1⟩
  refine ok_b1 (T_X12_next0 P15) (fun s17 n17 => ?_)
  have f17 : ∀ k, k ≠ 16 → k ≠ 17 → k ≠ 18 → k ≠ 19 → k ≠ 23 → s17.1 88 k = s.1 88 k := fun k a1 a2 a3 a4 a5 => (n17.1.2 k a1 a2 a3 a4).trans (e15 k a5)
  have d17 : s17.1 88 23 = ci 0 := (n17.1.2 23 (by decide) (by decide) (by decide) (by decide)).trans ((congrFun (r15 88 (by decide)) 23).trans d13)
  have t17 : (s.1 88 18).toInt < (s17.1 88 18).toInt := by
    have a1 := n17.2.2
    rw [e15 16 (by decide)] at a1
    omega
  have r17 : ∀ j, j ≠ 88 → j ≠ 92 → s17.1 j = s.1 j := fun j h1 h2 => (n17.1.1 j h1).trans ((r15 j h2).trans (r13 j h1))
  have c17 : ∀ k, k ≠ 4 * n + 3 → s17.1 92 k = s.1 92 k := fun k hk => (congrFun (n17.1.1 92 (by decide)) k).trans ((c15 k hk).trans (congrFun (r13 92 (by decide)) k))
  rw [f17 12 (by decide) (by decide) (by decide) (by decide) (by decide), f17 13 (by decide) (by decide) (by decide) (by decide) (by decide)]
  refine ok_nn (ix_ok (r_mul (by decide : (ci 4).toInt = 4) h12 (by omega) (by omega)) (by omega) (by omega)) ?_
  rw [r_nat2 (e := (ci 4) * (s.1 88 12)) (m := 4 * n) (r_mul (by decide : (ci 4).toInt = 4) h12 (by omega) (by omega)) (by omega)]
  extract_lets +onlyGivenNames s19
  have r19 : ∀ j, j ≠ 92 → s19.1 j = s17.1 j := fun j hj => mu_rowP hj
  have c19 : ∀ k, k ≠ 4 * n → s19.1 92 k = s17.1 92 k := fun k hk => mu_cellP (Or.inr hk)
  have v19 : s19.1 92 (4 * n) = s.1 88 13 := mu_sameP
  clear_value s19
  have e19 : s19.1 88 = s17.1 88 := r19 88 (by decide)
  have p17 : PE s17 := ⟨n17.2.1, by rw [f17 13 (by decide) (by decide) (by decide) (by decide) (by decide)]; exact st0, by rw [f17 13 (by decide) (by decide) (by decide) (by decide) (by decide)]; omega⟩
  have p19 : PE s19 := PE_88 e19 p17
  have s13' : s19.1 88 13 = s.1 88 13 := by rw [e19]; exact f17 13 (by decide) (by decide) (by decide) (by decide) (by decide)
  have s12' : s19.1 88 12 = s.1 88 12 := by rw [e19]; exact f17 12 (by decide) (by decide) (by decide) (by decide) (by decide)
  have s23' : s19.1 88 23 = ci 0 := by rw [e19]; exact d17
  have s18' : (s.1 88 18).toInt < (s19.1 88 18).toInt := by rw [e19]; exact t17
  have R19 : ∀ j, j ≠ 88 → j ≠ 92 → s19.1 j = s.1 j := fun j h1 h2 => (r19 j h2).trans (r17 j h1 h2)
  have rt19 : RT s s19 := ⟨fun j h1 h2 => R19 j h2 (by omega), by rw [e19]; exact f17 3 (by decide) (by decide) (by decide) (by decide) (by decide), by rw [e19]; exact f17 4 (by decide) (by decide) (by decide) (by decide) (by decide), by rw [e19]; exact f17 15 (by decide) (by decide) (by decide) (by decide) (by decide)⟩
  have C19 : ∀ k, k < 4 * n → s19.1 92 k = s.1 92 k := fun k hk => (c19 k (by omega)).trans (c17 k (by omega))
  refine ok_b2 (T_X12_sumUp p19) (fun v22 s21 hq => ?_)
  have h21 : PO s19 (v22, s21) := hq
  clear hq
  have R21 : RE s19 s21 := h21.2.1
  refine ok_ite (fun _ => ok_some ⟨pb0, RT_tr rt19 (RT_RE R21), fun q => absurd z0 q⟩) (fun c22 => ?_)
  obtain ⟨g21, dd21⟩ := h21.2.2 c22
  have g21 : HH s19 s21 1 0 := g21
  have d21 : s21.1 88 23 = ci 0 := dd21.trans s23'
  clear dd21
  have e12 : s21.1 88 12 = s.1 88 12 := (R21.2 12 (by unfold kE; omega)).trans s12'
  have p21 : PE s21 := HH_PE g21 (by decide) p19
  obtain ⟨z1, z2, z3, z4, z5, z6, z7, z8⟩ := g21
  rw [s13'] at z1 z4 z5 z7 z8
  obtain ⟨a, ea⟩ : ∃ a : Nat, (s.1 88 13).toInt = (a : Int) := ⟨(s.1 88 13).toInt.toNat, by omega⟩
  obtain ⟨b, eb⟩ : ∃ b : Nat, (s21.1 88 13).toInt = (b : Int) := ⟨(s21.1 88 13).toInt.toNat, by omega⟩
  have hab : a ≤ b := by omega
  have ba : a < 1000 := by omega
  have bb : b < 1000 := by have := p21.2.2; have := p21.1.1; have := p21.1.2.2.1; have := p21.1.2.2.2.1; omega
  have rr1 : Rc (s21.1 93) a (b - a) 0 1 := by
    have := z8 0
    rw [ea, eb, show ((a : Int)).toNat = a from rfl, show ((b : Int) - (a : Int)).toNat = b - a by omega] at this
    exact this
  rw [e12]
  refine ok_nn (ix_ok (r_add (r_mul (by decide : (ci 4).toInt = 4) h12 (by omega) (by omega)) (by decide : (ci 1).toInt = 1) (by omega) (by omega)) (by omega) (by omega)) ?_
  rw [r_nat2 (e := ((ci 4) * (s.1 88 12)) + (ci 1)) (m := 4 * n + 1) (r_add (r_mul (by decide : (ci 4).toInt = 4) h12 (by omega) (by omega)) (by decide : (ci 1).toInt = 1) (by omega) (by omega)) (by omega)]
  extract_lets +onlyGivenNames s25
  have r25 : ∀ j, j ≠ 92 → s25.1 j = s21.1 j := fun j hj => mu_rowP hj
  have c25 : ∀ k, k ≠ 4 * n + 1 → s25.1 92 k = s21.1 92 k := fun k hk => mu_cellP (Or.inr hk)
  have v25 : s25.1 92 (4 * n + 1) = s21.1 88 13 := mu_sameP
  clear_value s25
  have e25 : s25.1 88 = s21.1 88 := r25 88 (by decide)
  have p25 : PE s25 := PE_88 e25 p21
  have f92 : s21.1 92 = s19.1 92 := R21.1 92 (by decide) (by decide)
  have ha25 : s25.1 92 (4 * n) = cn a := by
    rw [c25 _ (by omega), f92, v19]; exact cn_of ea (by omega)
  have hb25 : s25.1 92 (4 * n + 1) = cn b := by rw [v25]; exact cn_of eb (by omega)
  have rt25 : RT s s25 := RT_tr rt19 (RT_tr (RT_RE R21) ⟨fun j h1 h2 => r25 j (by omega), by rw [e25], by rw [e25], by rw [e25]⟩)
  have l25 : ∀ i, i < n → LO s25 i := fun i hi => LO_mono (hl i hi) (by rw [e25]; omega) (fun k hk => by rw [c25 _ (by omega), f92, C19 _ (by omega)]) (fun j hj => by rw [r25 93 (by decide), z7 j hj, R19 93 (by decide) (by decide)])
  have t25 : (s.1 88 18).toInt < (s25.1 88 18).toInt := by rw [e25]; omega
  have e25_12 : (s25.1 88 12).toInt = (n : Int) := by rw [e25, e12]; exact h12
  have e25_93 : s25.1 93 = s21.1 93 := r25 93 (by decide)
  refine ok_ite (fun c3 => ?_) (fun _ => ?_)
  · have ht25 := tok_ne c3 (by decide)
    refine ok_b1 (T_X12_next0 (PI_P0 p25.1)) (fun s28 n28 => ?_)
    have x13 : s28.1 88 13 = s25.1 88 13 := n28.1.2 13 (by decide) (by decide) (by decide) (by decide)
    have x23 : s28.1 88 23 = ci 0 := (n28.1.2 23 (by decide) (by decide) (by decide) (by decide)).trans (by rw [e25]; exact d21)
    have y1 := n28.2.2
    have y2 := p25.1.2.2.1
    have y3 := p25.2.2
    have p28 : PE s28 := ⟨n28.2.1, by rw [x13]; exact p25.2.1, by rw [x13]; omega⟩
    have z23 : (s28.1 88 23).toInt = 0 := by rw [x23]; decide
    refine ok_b2 (T_X12_any p28 (fun s' p' e' => ?_)) (fun v31 s30 hq => ?_)
    · have e0 : (s'.1 88 23).toInt = 0 := by rw [e']; exact z23
      exact TQ_one 9 s' p' (by omega) (by omega) (by omega)
    · have h30 : PO s28 (v31, s30) := hq
      clear hq
      have R30 : RE s28 s30 := h30.2.1
      have rt30 : RT s s30 := RT_tr rt25 (RT_tr (RT_RE (RE_RN n28.1)) (RT_RE R30))
      refine ok_ite (fun _ => ok_some ⟨pb0, rt30, fun q => absurd z0 q⟩) (fun c31 => ?_)
      obtain ⟨g30, _⟩ := h30.2.2 c31
      have g30 : HH s28 s30 1 0 := g30
      have p30 : PE s30 := HH_PE g30 (by decide) p28
      obtain ⟨w1, w2, w3, w4, w5, w6, w7, w8⟩ := g30
      have x13' : (s28.1 88 13).toInt = (b : Int) := by rw [x13, e25]; exact eb
      rw [x13'] at w1 w4 w5 w7 w8
      obtain ⟨c, ec⟩ : ∃ c : Nat, (s30.1 88 13).toInt = (c : Int) := ⟨(s30.1 88 13).toInt.toNat, by omega⟩
      have g92 : s30.1 92 = s25.1 92 := (R30.1 92 (by decide) (by decide)).trans (n28.1.1 92 (by decide))
      have g93 : ∀ j : Nat, (j : Int) < 2 * (b : Int) → s30.1 93 j = s25.1 93 j := fun j hj => (w7 j hj).trans (congrFun (n28.1.1 93 (by decide)) j)
      have g12 : s30.1 88 12 = s25.1 88 12 := (R30.2 12 (by unfold kE; omega)).trans (n28.1.2 12 (by decide) (by decide) (by decide) (by decide))
      have rr2 : Rc (s30.1 93) b (c - b) 0 1 := by
        have := w8 0
        rw [ec, show ((b : Int)).toNat = b from rfl, show ((c : Int) - (b : Int)).toNat = c - b by omega] at this
        exact this
      refine ok_mono (al_123 (n := n) (a := a) (b := b) (c := c) p30 (by rw [g12]; exact e25_12) hn ec (by rw [g92]; exact ha25) (by rw [g92]; exact hb25) hab (by omega) (Rc_congr _ _ _ _ (fun j _ hj => by rw [g93 j (by omega), e25_93]) rr1) (Or.inr rr2) (fun i hi => LO_mono (l25 i hi) (by rw [e25, ec, eb]; omega) (fun k _ => by rw [g92]) (fun j hj => g93 j (by rw [e25, eb] at hj; omega)))) (fun τ q => ?_)
      obtain ⟨q1, q2, q3⟩ := q
      refine ⟨q1, RT_tr rt30 q2, fun hv => ?_⟩
      obtain ⟨⟨u1, u2, u3⟩, u4⟩ := q3 hv
      exact ⟨hn, ⟨u1, u2.trans (g12.trans (by rw [e25]; exact e12)), u3⟩, by omega⟩
  · refine ok_mono (al_123 (n := n) (a := a) (b := b) (c := b) p25 e25_12 hn (by rw [e25]; exact eb) ha25 hb25 hab (Nat.le_refl _) (by rw [e25_93]; exact rr1) (Or.inl rfl) l25) (fun τ q => ?_)
    obtain ⟨q1, q2, q3⟩ := q
    refine ⟨q1, RT_tr rt25 q2, fun hv => ?_⟩
    obtain ⟨⟨u1, u2, u3⟩, u4⟩ := q3 hv
    exact ⟨hn, ⟨u1, u2.trans (by rw [e25]; exact e12), u3⟩, by omega⟩
/-- a law, read so far -/
def LSx (s : mG) : Prop := PE s ∧ 0 ≤ (s.1 88 12).toInt ∧ (s.1 88 12).toInt ≤ 16 ∧ ∀ i : Nat, (i : Int) < (s.1 88 12).toInt → LO s i
def mGd (x : Int32) (s : mG) : Nat := if x = 0 then 0 else mUp (s.1 88 18) + 1
theorem T_X12_readsLaw {s : mG} (h : PI s) : ok (F_X12_readsLaw s) (fun τ => PB τ.1 ∧ RT s τ.2 ∧ (¬ τ.1 = 0 → LSx τ.2)) := by
  unfold F_X12_readsLaw
  extract_lets +onlyGivenNames s1
  have r1 : RT s s1 := RT_mu (by omega)
  have c1 : ∀ k, k ≠ 12 → s1.1 88 k = s.1 88 k := fun k hk => mu_cellP (Or.inr hk)
  have v1 : s1.1 88 12 = ci 0 := mu_sameP
  clear_value s1
  extract_lets +onlyGivenNames s2
  have r2 : RT s s2 := RT_mu1 r1 (by omega)
  have c2 : ∀ k, k ≠ 13 → s2.1 88 k = s1.1 88 k := fun k hk => mu_cellP (Or.inr hk)
  have v2 : s2.1 88 13 = ci 0 := mu_sameP
  clear_value s2
  have z : (ci 0).toInt = 0 := by decide
  have e12 : s2.1 88 12 = ci 0 := (c2 12 (by decide)).trans v1
  have e : ∀ k, k ≠ 12 → k ≠ 13 → s2.1 88 k = s.1 88 k := fun k h1 h2 => (c2 k h2).trans (c1 k h1)
  have p2 : PI s2 := by
    unfold PI
    rw [e 15 (by decide) (by decide), e 16 (by decide) (by decide), e 17 (by decide) (by decide), e 18 (by decide) (by decide)]
    exact h
  have L2 : LSx s2 := ⟨⟨p2, by rw [v2, z]; omega, by rw [v2, z]; exact p2.2.1⟩, by rw [e12, z]; omega, by rw [e12, z]; omega, fun i hi => by rw [e12, z] at hi; omega⟩
  unfold F_X12_readsLaw_L12
  refine ok_whl (fun v => PB v.1 ∧ RT s v.2 ∧ (¬ v.1 = 0 → LSx v.2)) (fun v => mGd v.1 v.2) ⟨pb1, r2, fun _ => L2⟩ (fun v hv => ?_)
  obtain ⟨x1, s3⟩ := v
  obtain ⟨q1, q2, q3⟩ := hv
  have k1 : PB x1 := q1
  have k2 : RT s s3 := q2
  have k3 : ¬ x1 = 0 → LSx s3 := q3
  clear q1 q2 q3
  show ok (F_X12_readsLaw_B12 x1 s3) _
  unfold F_X12_readsLaw_B12 F_X12_readsLaw_49
  have fin : ok (b1 (if x1 = 0 ∨ x1 = 1 then some (x1, s3) else none) fun τ => some (Sum.inr τ)) (lpost (fun (v : Int32 × mG) => PB v.1 ∧ RT s v.2 ∧ (¬ v.1 = 0 → LSx v.2)) (fun v => mGd v.1 v.2) (mGd x1 s3) (fun τ => PB τ.1 ∧ RT s τ.2 ∧ (¬ τ.1 = 0 → LSx τ.2))) := by
    rw [if_pos (show x1 = 0 ∨ x1 = 1 from k1)]
    exact ok_some (lp_inr ⟨k1, k2, k3⟩)
  refine ok_ite (fun _ => fin) (fun c0 => ?_)
  refine ok_ite (fun _ => fin) (fun c17 => ?_)
  obtain ⟨w1, w2, w3, w4⟩ := k3 c0
  obtain ⟨n, en⟩ : ∃ n : Nat, (s3.1 88 12).toInt = (n : Int) := ⟨(s3.1 88 12).toInt.toNat, by omega⟩
  refine ok_b2 (T_X12_aLine (n := n) w1 en (by omega) (fun i hi => w4 i (by omega))) (fun v8 s7 hq => ?_)
  obtain ⟨q1, q2, q3⟩ := hq
  have j1 : PB v8 := q1
  have j2 : RT s3 s7 := q2
  have j3 : ¬ v8 = 0 → n < 16 ∧ AL s3 s7 n ∧ (s3.1 88 18).toInt < (s7.1 88 18).toInt := q3
  clear q1 q2 q3
  unfold F_X12_readsLaw_42
  have m0 : mGd x1 s3 = mUp (s3.1 88 18) + 1 := if_neg c0
  refine ok_ite (fun cv => ?_) (fun cv => ?_)
  · refine ok_some (lp_inl ⟨j1, RT_tr k2 (RT_tr j2 (RT_mu (by omega))), fun q => absurd cv q⟩ ?_)
    show mGd v8 _ < mGd x1 s3
    rw [m0, show mGd v8 (mu s7.1 88 12 (s7.1 88 12 + ci 0), s7.2) = 0 from if_pos cv]
    omega
  · obtain ⟨u1, ⟨u2, u3, u4⟩, u5⟩ := j3 cv
    extract_lets +onlyGivenNames s10
    have rt : RT s7 s10 := RT_mu (by omega)
    have cc : ∀ k, k ≠ 12 → s10.1 88 k = s7.1 88 k := fun k hk => mu_cellP (Or.inr hk)
    have rr : ∀ j, j ≠ 88 → s10.1 j = s7.1 j := fun j hj => mu_rowP hj
    have vv : s10.1 88 12 = s7.1 88 12 + ci 1 := mu_sameP
    clear_value s10
    have t12 : (s10.1 88 12).toInt = (n : Int) + 1 := by rw [vv, u3, t_up (by omega), en]
    have w2 : 0 ≤ (s10.1 88 12).toInt ∧ (s10.1 88 12).toInt ≤ 16 := by omega
    refine ok_some (lp_inl ⟨j1, RT_tr k2 (RT_tr j2 rt), fun _ => ⟨?_, w2.1, w2.2, fun i hi => ?_⟩⟩ ?_)
    · show PE s10
      unfold PE PI
      rw [cc 13 (by decide), cc 15 (by decide), cc 16 (by decide), cc 17 (by decide), cc 18 (by decide)]
      exact u2
    · replace hi : (i : Int) < (s10.1 88 12).toInt := hi
      exact LO_mono (u4 i (by omega)) (by rw [cc 13 (by decide)]; omega) (fun k _ => by rw [rr 92 (by decide)]) (fun j _ => by rw [rr 93 (by decide)])
    · show mGd v8 s10 < mGd x1 s3
      rw [m0, show mGd v8 s10 = mUp (s10.1 88 18) + 1 from if_neg cv, cc 18 (by decide)]
      have b1 := u2.1.2.2.1
      have b2 := u2.1.2.2.2.1
      have b3 := u2.1.1
      unfold mUp
      omega
