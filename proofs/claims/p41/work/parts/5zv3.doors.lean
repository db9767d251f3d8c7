noncomputable section
/-! WHERE A CLERK STANDS: the reference -/
theorem d_ix {c d : Nat} (hc : c < 2000) (hd : d < 2000) : (ci 2 * cn c) + cn d = cn (2 * c + d) := by
  rw [show ci 2 * cn c = cn (2 * c) from cn_mul (a := 2) (by omega) (by omega) (by omega)]
  exact cn_add (by omega)
theorem V_laysDL {b t : mG} {n nc c : Nat} (L : LTy nc (b.1 89)) (g2 : b.1 89 112 = cn n) (hn : n ≤ 12) (hc : c < 24) (hb : ∀ j, j ≠ 96 → j ≠ 97 → j ≠ 103 → t.1 j = b.1 j) (z0 : t.1 103 (2 * c) = ci 0) (z1 : t.1 103 (2 * c + 1) = ci 0) : pk (F_X12_laysDoors_L45 (cn c) (dHr (b.1 89) c) (ci 0) t) (fun o => ∃ t' : mG, o = Sum.inl (cn c + ci 1, t') ∧ t'.1 103 (2 * c) = dSum (b.1 89) c 0 n ∧ t'.1 103 (2 * c + 1) = dSum (b.1 89) c 1 n ∧ (∀ k, k ≠ 2 * c → k ≠ 2 * c + 1 → t'.1 103 k = t.1 103 k) ∧ ∀ j, j ≠ 96 → j ≠ 97 → j ≠ 103 → t'.1 j = b.1 j) := by
  unfold F_X12_laysDoors_L45
  refine pk_whl (fun v => ∃ (g : Nat) (u : mG), g ≤ n ∧ v = (cn c, dHr (b.1 89) c, cn g, u) ∧ u.1 103 (2 * c) = dSum (b.1 89) c 0 g ∧ u.1 103 (2 * c + 1) = dSum (b.1 89) c 1 g ∧ (∀ k, k ≠ 2 * c → k ≠ 2 * c + 1 → u.1 103 k = t.1 103 k) ∧ ∀ j, j ≠ 96 → j ≠ 97 → j ≠ 103 → u.1 j = b.1 j) ⟨0, t, Nat.zero_le _, rfl, z0, z1, fun _ _ _ => rfl, hb⟩ (fun v hv => ?_)
  obtain ⟨g, u, hg, ev, p0, p1, po, ru⟩ := hv
  rw [ev]
  have e89 : u.1 89 = b.1 89 := ru 89 (by decide) (by decide) (by decide)
  unfold F_X12_laysDoors_B45 F_X12_laysDoors_161
  dsimp only
  rw [e89, g2]
  by_cases hgn : n ≤ g
  · have eg : g = n := by omega
    rw [eg] at p0 p1
    rw [if_pos ((cn_le (by omega) (by omega)).mpr hgn)]
    exact pk_some (show ∃ t' : mG, _ from ⟨u, rfl, p0, p1, po, ru⟩)
  rw [if_neg (fun q => hgn ((cn_le (by omega) (by omega)).mp q)), show ci 3 + cn g = cn (3 + g) from cn_add (a := 3) (by omega), cn_nat (n := 3 + g) (by omega)]
  refine pk_nn ?_
  by_cases ho : b.1 89 (3 + g) = ci 1
  · rw [if_pos ho]
    exact pk_some (show ∃ (g' : Nat) (u' : mG), _ from ⟨g + 1, u, by omega, by rw [cnu (by omega)], by rw [dSum_s, if_pos ho]; exact p0, by rw [dSum_s, if_pos ho]; exact p1, po, ru⟩)
  rw [if_neg ho, show c8 27 + cn g = cn (27 + g) from cn_add (a := 27) (by omega), cn_nat (n := 27 + g) (by omega), show c8 20 = cn (20 + 0) by decide, show c8 24 = cn (20 + 4) by decide]
  refine pk_nn ?_
  refine pk_b2 (V_says (x := 0) (nc := nc) (by rw [e89]; exact L) (by omega : g < 12) (by decide)) (fun v13 s12 qt => ?_)
  obtain ⟨t1o, t2o⟩ := qt
  rw [e89] at t1o
  have t1 : v13 = dGo (b.1 89) c g := t1o
  have t2 : ∀ j, j ≠ 96 → j ≠ 97 → s12.1 j = u.1 j := t2o
  have f89 : s12.1 89 = b.1 89 := (t2 89 (by decide) (by decide)).trans e89
  rw [f89]
  refine pk_nn ?_
  refine pk_b2 (V_says (x := 4) (nc := nc) (by rw [f89]; exact L) (by omega : g < 12) (by decide)) (fun v17 s16 qs => ?_)
  obtain ⟨w1o, w2o⟩ := qs
  rw [f89] at w1o
  have w1 : v17 = LV (b.1 89) (FAc (b.1 89) g (dHr (b.1 89) c) (b.1 89 113) (b.1 89 (27 + g))) 4 := w1o
  have w2 : ∀ j, j ≠ 96 → j ≠ 97 → s16.1 j = s12.1 j := w2o
  have r16 : ∀ j, j ≠ 96 → j ≠ 97 → s16.1 j = u.1 j := fun j h1 h2 => (w2 j h1 h2).trans (t2 j h1 h2)
  have e1 : (v13 * v17) / c16 1000 = dFr (b.1 89) c g := by rw [t1, w1]; rfl
  rw [e1, t1, show ci 2 * cn c = cn (2 * c) from cn_mul (a := 2) (by omega) (by omega) (by omega), show cn (2 * c) + ci 1 = cn (2 * c + 1) from cnu (by omega), cn_nat (n := 2 * c) (by omega)]
  refine pk_nn (pk_nn ?_)
  rw [cn_nat (n := 2 * c + 1) (by omega)]
  refine pk_nn (pk_nn (pk_some (show ∃ (g' : Nat) (u' : mG), _ from ⟨g + 1, _, by omega, by rw [cnu (by omega)], ?_, ?_, fun k k1 k2 => ?_, fun j h1 h2 h3 => ?_⟩)))
  · refine (mu_cellQ (Or.inr (by omega))).trans (mu_same.trans ?_)
    rw [r16 103 (by decide) (by decide), p0, dSum_s, if_neg ho, if_pos rfl]
  · refine mu_sameQ.trans ?_
    rw [mu_cell (Or.inr (by omega)), r16 103 (by decide) (by decide), p1, dSum_s, if_neg ho, if_neg (show ¬ 1 = 0 by decide)]
  · refine (mu_cellQ (Or.inr k2)).trans ((mu_cell (Or.inr k1)).trans ?_)
    rw [r16 103 (by decide) (by decide)]
    exact po k k1 k2
  · exact (mu_rowQ h3).trans ((mu_row h3).trans ((r16 j h1 h2).trans (ru j h1 h2 h3)))
theorem V_laysD {b : mG} {n nc : Nat} (L : LTy nc (b.1 89)) (g2 : b.1 89 112 = cn n) (hn : n ≤ 12) : pk (F_X12_laysDoors b) (fun t => (∀ c, c < 24 → t.1 103 (2 * c) = dSum (b.1 89) c 0 n ∧ t.1 103 (2 * c + 1) = dSum (b.1 89) c 1 n) ∧ ∀ j, j ≠ 96 → j ≠ 97 → j ≠ 103 → t.1 j = b.1 j) := by
  unfold F_X12_laysDoors F_X12_laysDoors_L2
  refine pk_whl (fun v => ∃ (c : Nat) (t : mG), c ≤ 24 ∧ v = (cn c, t) ∧ (∀ i, i < c → t.1 103 (2 * i) = dSum (b.1 89) i 0 n ∧ t.1 103 (2 * i + 1) = dSum (b.1 89) i 1 n) ∧ ∀ j, j ≠ 96 → j ≠ 97 → j ≠ 103 → t.1 j = b.1 j) ⟨0, b, by omega, rfl, fun i hi => absurd hi (by omega), fun _ _ _ _ => rfl⟩ (fun v hv => ?_)
  obtain ⟨c, t, hc, ev, ht, rt⟩ := hv
  rw [ev]
  unfold F_X12_laysDoors_B2
  dsimp only
  by_cases h24 : 24 ≤ c
  · have ec : c = 24 := by omega
    rw [ec] at ht
    rw [if_pos (show c8 24 ≤ cn c by rw [show c8 24 = cn 24 by decide]; exact (cn_le (by omega) (by omega)).mpr h24)]
    exact pk_some (show (∀ c, c < 24 → _) ∧ _ from ⟨ht, rt⟩)
  rw [if_neg (show ¬ c8 24 ≤ cn c by rw [show c8 24 = cn 24 by decide]; exact fun z => h24 ((cn_le (by omega) (by omega)).mp z)), show ci 2 * cn c = cn (2 * c) from cn_mul (a := 2) (by omega) (by omega) (by omega), show cn (2 * c) + ci 1 = cn (2 * c + 1) from cnu (by omega), cn_nat (n := 2 * c) (by omega), cn_nat (n := 2 * c + 1) (by omega)]
  refine pk_nn (pk_nn ?_)
  have m89 : mu (mu t.1 103 (2 * c) (ci 0)) 103 (2 * c + 1) (ci 0) 89 = b.1 89 := by
    rw [mu_row (by decide), mu_row (by decide)]
    exact rt 89 (by decide) (by decide) (by decide)
  rw [m89]
  show pk (F_X12_laysDoors_L45 (cn c) (dHr (b.1 89) c) (ci 0) (mu (mu t.1 103 (2 * c) (ci 0)) 103 (2 * c + 1) (ci 0), t.2)) _
  intro o ho
  obtain ⟨t', eo, q0, q1, qo, rq⟩ := V_laysDL (b := b) L g2 hn (by omega : c < 24) (t := (mu (mu t.1 103 (2 * c) (ci 0)) 103 (2 * c + 1) (ci 0), t.2)) (fun j h1 h2 h3 => (mu_rowQ h3).trans ((mu_row h3).trans (rt j h1 h2 h3))) ((mu_cellQ (Or.inr (by omega))).trans mu_same) mu_sameQ o ho
  rw [eo]
  refine (show ∃ (c' : Nat) (t' : mG), _ from ⟨c + 1, t', by omega, by rw [cnu (by omega)], fun i hi => ?_, rq⟩)
  by_cases e : i = c
  · rw [e]; exact ⟨q0, q1⟩
  · rw [qo (2 * i) (by omega) (by omega), qo (2 * i + 1) (by omega) (by omega)]
    have x0 : mu (mu t.1 103 (2 * c) (ci 0)) 103 (2 * c + 1) (ci 0) 103 (2 * i) = t.1 103 (2 * i) := by rw [mu_cell (Or.inr (by omega)), mu_cell (Or.inr (by omega))]
    have x1 : mu (mu t.1 103 (2 * c) (ci 0)) 103 (2 * c + 1) (ci 0) 103 (2 * i + 1) = t.1 103 (2 * i + 1) := by rw [mu_cell (Or.inr (by omega)), mu_cell (Or.inr (by omega))]
    refine (show mu (mu t.1 103 (2 * c) (ci 0)) 103 (2 * c + 1) (ci 0) 103 (2 * i) = _ ∧ mu (mu t.1 103 (2 * c) (ci 0)) 103 (2 * c + 1) (ci 0) 103 (2 * i + 1) = _ from ?_)
    rw [x0, x1]
    exact ht i (by omega)
theorem grt_0 {x y : Int32} : (if x ≤ y then y else x) = imax x y := by
  show (if x ≤ y then y else x) = if x < y then y else x
  by_cases h : x < y
  · rw [if_pos h, if_pos (Int32.le_of_lt h)]
  · rw [if_neg h]
    by_cases k : x ≤ y
    · rw [if_pos k]
      rw [Int32.lt_iff_toInt_lt] at h
      rw [Int32.le_iff_toInt_le] at k
      exact Int32.toInt_inj.mp (by omega)
    · rw [if_neg k]
theorem imax_sw {x y : Int32} : imax x y = imax y x := by
  show (if x < y then y else x) = if y < x then x else y
  by_cases h : x < y
  · rw [if_pos h, if_neg (fun k => by rw [Int32.lt_iff_toInt_lt] at h k; omega)]
  · rw [if_neg h]
    by_cases k : y < x
    · rw [if_pos k]
    · rw [if_neg k]
      rw [Int32.lt_iff_toInt_lt] at h k
      exact Int32.toInt_inj.mp (by omega)
theorem V_greater {s : mG} {x y : Int32} : F_X12_greater s x y = some (imax x y) := by
  unfold F_X12_greater
  rw [← grt_0]
  by_cases h : x ≤ y
  · rw [if_pos h, if_pos h]
  · rw [if_neg h, if_neg h]
theorem V_mostBy {s : mG} {q d : Nat} {p : Int32} {f : Nat → Int32} (hq : q < 23) (hd : d < 2) (h : ∀ i, i < 2 → s.1 104 (2 * (q + 1) + i) = f i) : pk (F_X12_mostBy s (cn q) (cn d) p) (fun v => v = imax (f 0 - (if d = 0 then ci 0 else p)) (f 1 - (if d = 1 then ci 0 else p))) := by
  unfold F_X12_mostBy
  rw [show cn q + ci 1 = cn (q + 1) from cnu (by omega), d_ix (by omega) (by omega), show (ci 2 * cn (q + 1)) + ci 1 = cn (2 * (q + 1) + 1) from d_ix (d := 1) (by omega) (by omega), cn_sub (by omega) (by omega), cn_nat (n := 2 * (q + 1) + d) (by omega), cn_nat (n := 2 * (q + 1) + 1 - d) (by omega)]
  refine pk_nn (pk_nn ?_)
  rw [V_greater, b1_some]
  refine pk_some ?_
  have h0 := h 0 (by decide)
  have h1 := h 1 (by decide)
  rcases (show d = 0 ∨ d = 1 by omega) with e | e
  · rw [e, if_pos rfl, if_neg (by decide), h0, show 2 * (q + 1) + 1 - 0 = 2 * (q + 1) + 1 from rfl, h1, show f 0 - ci 0 = f 0 from Int32.sub_zero _]
  · rw [e, if_neg (by decide), if_pos rfl, h1, show 2 * (q + 1) + 1 - 1 = 2 * (q + 1) + 0 by omega, h0, show f 1 - ci 0 = f 1 from Int32.sub_zero _]
    exact imax_sw
end
