noncomputable section
/-! A TEXT TAKEN, on both sides -/
theorem V_forgetSeenE {s : mG} {n : Nat} (h1 : s.1 2 1 = cn 11) (h3 : s.1 2 3 = cn n) (hn : n ≤ 12) : pk (F_X2_forgetSeen 1 s) (fun u => (∀ j, j ≠ 3 → u.1 j = s.1 j) ∧ ∀ r c, r < n → c < 11 → u.1 3 (r * 11 + c) = if c < 5 then s.1 3 (r * 11 + c) else ci (-1)) := by
  unfold F_X2_forgetSeen F_X2_forgetSeen_L2
  refine pk_whl (fun v => ∃ g, g ≤ n ∧ v.1 = cn g ∧ (∀ j, j ≠ 3 → v.2.1 j = s.1 j) ∧ (∀ r c, r < g → c < 11 → v.2.1 3 (r * 11 + c) = if c < 5 then s.1 3 (r * 11 + c) else ci (-1)) ∧ ∀ k, g * 11 ≤ k → v.2.1 3 k = s.1 3 k) ⟨0, Nat.zero_le _, rfl, fun _ _ => rfl, fun r c hr => absurd hr (by omega), fun _ _ => rfl⟩ (fun v hv => ?_)
  obtain ⟨x1, u⟩ := v
  obtain ⟨g, hg, e1, r1, k1, k2⟩ := hv
  have e1 : x1 = cn g := e1
  have r1 : ∀ j, j ≠ 3 → u.1 j = s.1 j := r1
  have k1 : ∀ r c, r < g → c < 11 → u.1 3 (r * 11 + c) = if c < 5 then s.1 3 (r * 11 + c) else ci (-1) := k1
  have k2 : ∀ k, g * 11 ≤ k → u.1 3 k = s.1 3 k := k2
  subst e1
  unfold F_X2_forgetSeen_B2
  rw [show u.1 (1 + 1) 3 = cn n by rw [r1 (1 + 1) (by decide)]; exact h3]
  by_cases hgn : n ≤ g
  · rw [if_pos ((cn_le (by omega) (by omega)).mpr hgn)]
    exact pk_some ⟨r1, fun r c hr hc => k1 r c (by omega) hc⟩
  · rw [if_neg (fun q => hgn ((cn_le (by omega) (by omega)).mp q))]
    refine pk_b1 (V_fsoE (n := n) (by rw [r1 2 (by decide)]; exact h1) (by rw [r1 2 (by decide)]; exact h3) hn (by omega)) (fun w q => ?_)
    obtain ⟨q1, q2, q3⟩ := q
    refine pk_some (show ∃ g, _ from ⟨g + 1, by omega, cnu (by omega), fun j hj => (q1 j hj).trans (r1 j hj), fun r c hr hc => ?_, fun k hk => (q2 k (by omega)).trans (k2 k (by omega))⟩)
    by_cases e : r = g
    · subst e
      by_cases h5 : c < 5
      · rw [if_pos h5]
        exact (q2 _ (by omega)).trans (k2 _ (by omega))
      · rw [if_neg h5]
        exact q3 c (by omega) hc
    · exact (q2 _ (by omega)).trans (k1 r c (by omega) hc)
theorem SIM_same {a b u t : mG} (h : SIM a b) (lo : ∀ j, j < 55 → u.1 j = a.1 j) (r89 : t.1 89 = b.1 89) (r90 : t.1 90 = b.1 90) (r91 : t.1 91 = b.1 91) (c3 : t.1 88 3 = b.1 88 3) (c4 : t.1 88 4 = b.1 88 4) : SIM u t := by
  obtain ⟨⟨n, nb, nc, hn, hnb, e2, e4, e8, H, L, V⟩, P, I⟩ := h
  refine ⟨⟨n, nb, nc, hn, hnb, by rw [lo 2 (by decide)]; exact e2, by rw [lo 4 (by decide)]; exact e4, by rw [lo 8 (by decide)]; exact e8, ?_, by rw [r89]; exact L, by rw [r89]; exact V⟩, ?_, IMG_same I (congrFun (lo 0 (by decide)) 2) (fun j _ h2 => lo j (by omega)) c4 r90⟩
  · rw [r89]
    exact HSr1_row H (fun j _ h2 => lo j (by omega)) (fun _ _ => rfl)
  · exact PSr_go P (lo 35 (by decide)) c3 r91 (lo 2 (by decide)) e2 hn e4 (Nat.le_refl _) hnb (by rw [lo 4 (by decide)]; exact e4) (fun j _ h2 => lo j (by omega)) (fun r c _ _ => congrFun (lo 3 (by decide)) _)
/-- what of the reference stays while a text is read, and what its code pushes -/
theorem V_refBody {E : Nat → Nat → Int32} {z : Nat → Nat → Int64} {r len : Nat} {w3 : Int32} {t2 : mG} (hr : r < 3) (hlen : len ≤ 400) (e15 : E 88 15 = cn len) (e16 : E 88 16 = cn 0) (f : refBody (cn r) (E, z) = some (w3, t2)) : (∀ j, j < 92 → j ≠ 88 → t2.1 j = E j) ∧ t2.1 88 3 = E 88 3 ∧ t2.1 88 4 = E 88 4 ∧ (r = 0 → ¬ w3 = 0 → LSxT t2) := by
  have p0 : P0 (E, z) := by
    unfold P0
    show (E 88 15).toInt ≤ 400 ∧ 0 ≤ (E 88 16).toInt ∧ (E 88 16).toInt ≤ (E 88 15).toInt
    rw [e15, e16, t_cn (by omega), t_cn (by omega)]
    omega
  obtain ⟨s11, g1, nx⟩ := T_X12_next0 p0
  unfold refBody at f
  rw [g1, b1_some] at f
  have fr : ∀ {τ : Int32 × mG}, RT s11 τ.2 → (∀ j, j < 92 → j ≠ 88 → τ.2.1 j = E j) ∧ τ.2.1 88 3 = E 88 3 ∧ τ.2.1 88 4 = E 88 4 := fun {τ} q =>
    ⟨fun j h1 h2 => (q.1 j h1 h2).trans (nx.1.1 j h2), q.2.1.trans (nx.1.2 3 (by decide) (by decide) (by decide) (by decide)), q.2.2.1.trans (nx.1.2 4 (by decide) (by decide) (by decide) (by decide))⟩
  by_cases h0 : r = 0
  · subst h0
    rw [if_pos (by decide)] at f
    obtain ⟨τ, g2, k1, k2, k3⟩ := TT_readsLaw nx.2.1
    rw [g2] at f
    have f := Option.some.inj f
    subst f
    obtain ⟨q1, q2, q3⟩ := fr k2
    exact ⟨q1, q2, q3, fun _ hne => k3 hne⟩
  · have hr0 : ¬ cn r = 0 := fun e => h0 ((cn_inj (b := 0) (by omega) (by omega)).mp (e.trans (by decide)))
    rw [if_neg hr0] at f
    obtain ⟨τ, g2, k1, k2, k3⟩ := T_X12_readsRows nx.2.1
    rw [g2] at f
    have f := Option.some.inj f
    subst f
    obtain ⟨q1, q2, q3⟩ := fr k2
    exact ⟨q1, q2, q3, fun e => absurd e h0⟩
theorem ovr_lo {p n k : Nat} {f g : Nat → Int32} (h : k < p ∨ p + n ≤ k) : ovr p n f g k = g k := by
  unfold ovr
  rw [if_neg (by omega)]
theorem ovr_in {p n k : Nat} {f g : Nat → Int32} (h : k < n) : ovr p n f g (p + k) = f k := by
  unfold ovr
  rw [if_pos (by omega), show p + k - p = k by omega]
/-- the law taken -/
theorem SIM_law {a b u t : mG} {L nc : Nat} {cc dd ee ff : Nat → Int32} (h : SIM a b) (hL : L ≤ 16) (hnc : nc ≤ 400) (lo : ∀ j, j < 55 → j ≠ 6 → j ≠ 7 → j ≠ 8 → j ≠ 9 → u.1 j = a.1 j) (k6 : ∀ c, c ≠ 3 → u.1 6 c = a.1 6 c) (k63 : u.1 6 3 = cn L) (k7 : ∀ j, j < L * 4 → u.1 7 j = cc j) (k8 : ∀ c, c ≠ 3 → u.1 8 c = a.1 8 c) (k83 : u.1 8 3 = cn nc) (k9 : ∀ j, j < nc * 1 → u.1 9 j = ee j) (hLR : ∀ j, j < L → LR cc dd j) (hEN : ∀ j, j < nc → EN (ee j) (ff (2 * j)) (ff (2 * j + 1))) (w117 : t.1 89 117 = cn L) (wl : ∀ j, j < L → t.1 89 (985 + j) = dd (4 * j) ∧ t.1 89 (1001 + j) = dd (4 * j + 1) ∧ t.1 89 (1017 + j) = dd (4 * j + 2) ∧ t.1 89 (1033 + j) = dd (4 * j + 3)) (wc : ∀ j, j < 2 * nc → t.1 89 (1050 + j) = ff j) (wo : ∀ k, k ≠ 117 → (k < 985 ∨ k = 1049 ∨ 1850 ≤ k) → t.1 89 k = b.1 89 k) (ty : ∀ i, i < L → ∃ p q c : Nat, p ≤ q ∧ q ≤ c ∧ c ≤ nc ∧ dd (4 * i) = cn p ∧ dd (4 * i + 1) = cn q ∧ dd (4 * i + 2) = cn c ∧ Rt ff p (q - p) [] [false] ∧ (q = c ∨ Rt ff q (c - q) [] [true])) (r90 : t.1 90 = b.1 90) (r91 : t.1 91 = b.1 91) (c3 : t.1 88 3 = b.1 88 3) (c4 : t.1 88 4 = b.1 88 4) : SIM u t := by
  obtain ⟨⟨n, nb, nc0, hn, hnb, e2, e4, e8, H, L0, V⟩, P, I⟩ := h
  obtain ⟨t1, t2, t3, t4, t5, t6, t7, t8, d1, d2, d3, d4⟩ := H
  have rl : ∀ j, j < 55 → j ≠ 6 → j ≠ 7 → j ≠ 8 → j ≠ 9 → u.1 j = a.1 j := lo
  refine ⟨⟨n, nb, nc, hn, hnb, by rw [rl 2 (by decide) (by decide) (by decide) (by decide) (by decide)]; exact e2, by rw [rl 4 (by decide) (by decide) (by decide) (by decide) (by decide)]; exact e4, k83, ⟨?_, ?_, ?_, ?_, ?_, ?_, ?_, ?_, ?_, ?_, ?_, ?_⟩, ?_, ?_⟩, ?_, IMG_same I (congrFun (rl 0 (by decide) (by decide) (by decide) (by decide) (by decide)) 2) (fun j h1 h2 => rl j (by omega) (by omega) (by omega) (by omega) (by omega)) c4 r90⟩
  · exact TWr_same t1 (rl _ (by decide) (by decide) (by decide) (by decide) (by decide)) (rl _ (by decide) (by decide) (by decide) (by decide) (by decide)) (wo _ (by decide) (by decide)) (fun x y hx hy => wo _ (by have := ixG_rng hx hy; omega) (by have := ixG_rng hx hy; omega))
  · exact TWr_same t2 (rl _ (by decide) (by decide) (by decide) (by decide) (by decide)) (rl _ (by decide) (by decide) (by decide) (by decide) (by decide)) (wo _ (by decide) (by decide)) (fun x y hx hy => wo _ (by unfold ixB; omega) (by unfold ixB; omega))
  · refine ⟨(k6 0 (by decide)).trans t3.1, (k6 1 (by decide)).trans t3.2.1, L, hL, k63, w117, fun r hr => ?_⟩
    obtain ⟨q1, q2, q3, x, hx, q4, q5⟩ := hLR r hr
    obtain ⟨z1, z2, z3, z4⟩ := wl r hr
    rw [show (1 + 5 + 1 : Nat) = 7 from rfl, k7 _ (by omega), k7 _ (by omega), k7 _ (by omega), k7 _ (by omega), z1, z2, z3, z4]
    exact ⟨q1, q2, q3, x, hx, q4, q5⟩
  · refine ⟨(k8 0 (by decide)).trans t4.1, (k8 1 (by decide)).trans t4.2.1, nc, hnc, k83, fun j hj => ?_⟩
    rw [show (1 + 7 + 1 : Nat) = 9 from rfl, k9 j (by omega), wc (2 * j) (by omega), show 1050 + 2 * j + 1 = 1050 + (2 * j + 1) by omega, wc (2 * j + 1) (by omega)]
    exact hEN j hj
  · exact TWr_same t5 (rl _ (by decide) (by decide) (by decide) (by decide) (by decide)) (rl _ (by decide) (by decide) (by decide) (by decide) (by decide)) (wo _ (by decide) (by decide)) (fun x y hx hy => wo _ (by unfold ixS; omega) (by unfold ixS; omega))
  · exact TWr_same t6 (rl _ (by decide) (by decide) (by decide) (by decide) (by decide)) (rl _ (by decide) (by decide) (by decide) (by decide) (by decide)) (wo _ (by decide) (by decide)) (fun x y hx hy => wo _ (by unfold ixH; omega) (by unfold ixH; omega))
  · exact TWr_same t7 (rl _ (by decide) (by decide) (by decide) (by decide) (by decide)) (rl _ (by decide) (by decide) (by decide) (by decide) (by decide)) (wo _ (by decide) (by decide)) (fun x y hx hy => wo _ (by unfold ixR; omega) (by unfold ixR; omega))
  · exact TWr_same t8 (rl _ (by decide) (by decide) (by decide) (by decide) (by decide)) (rl _ (by decide) (by decide) (by decide) (by decide) (by decide)) (wo _ (by decide) (by decide)) (fun x y hx hy => wo _ (by unfold ixC; omega) (by unfold ixC; omega))
  · rw [rl 1 (by decide) (by decide) (by decide) (by decide) (by decide), wo 113 (by decide) (by decide)]; exact d1
  · rw [rl 1 (by decide) (by decide) (by decide) (by decide) (by decide), wo 114 (by decide) (by decide)]; exact d2
  · rw [rl 1 (by decide) (by decide) (by decide) (by decide) (by decide), wo 0 (by decide) (by decide)]; exact d3
  · rw [rl 1 (by decide) (by decide) (by decide) (by decide) (by decide), wo 1 (by decide) (by decide)]; exact d4
  · refine ⟨hnc, L, hL, w117, fun r hr => ?_⟩
    obtain ⟨p, q, c, h1, h2, h3, z1, z2, z3, z4, z5⟩ := ty r hr
    obtain ⟨y1, y2, y3, y4⟩ := wl r hr
    refine ⟨p, q, c, h1, h2, h3, y1.trans z1, y2.trans z2, y3.trans z3, Rt_congr _ _ _ _ (fun j _ hj => wc j (by omega)) z4, ?_⟩
    rcases z5 with e | e
    · exact Or.inl e
    · exact Or.inr (Rt_congr _ _ _ _ (fun j _ hj => wc j (by omega)) e)
  · exact VIm_congr hn (fun k hk => wo k (by omega) (by omega)) V
  · exact PSr_go P (rl 35 (by decide) (by decide) (by decide) (by decide) (by decide)) c3 r91 (rl 2 (by decide) (by decide) (by decide) (by decide) (by decide)) e2 hn e4 (Nat.le_refl _) hnb (by rw [rl 4 (by decide) (by decide) (by decide) (by decide) (by decide)]; exact e4) (fun j h1 h2 => rl j (by omega) (by omega) (by omega) (by omega) (by omega)) (fun r c _ _ => congrFun (rl 3 (by decide) (by decide) (by decide) (by decide) (by decide)) _)
/-- the signs taken: nothing is seen -/
theorem SIM_signs {a b u t : mG} {R : Nat} {cc : Nat → Int32} (h : SIM a b) (hR : R ≤ 6) (lo : ∀ j, j < 55 → j ≠ 3 → j ≠ 10 → j ≠ 11 → j ≠ 35 → u.1 j = a.1 j) (k10 : ∀ c, c ≠ 3 → u.1 10 c = a.1 10 c) (k103 : u.1 10 3 = cn R) (k11 : ∀ j, j < R * 2 → u.1 11 j = cc j) (f1 : u.1 35 1 = ci 0) (f2 : u.1 35 2 = a.1 35 2) (k3 : ∀ n, n ≤ 12 → a.1 2 3 = cn n → ∀ r c, r < n → c < 11 → u.1 3 (r * 11 + c) = if c < 5 then a.1 3 (r * 11 + c) else ci (-1)) (c3 : t.1 88 3 = ci 0) (c4 : t.1 88 4 = b.1 88 4) (r90 : t.1 90 = b.1 90) (w : t.1 89 = ovr 39 72 (fun _ => ci (-1)) (ovr 143 (2 * R) cc (mu b.1 89 115 (cn R) 89))) : SIM u t := by
  obtain ⟨⟨n, nb, nc, hn, hnb, e2, e4, e8, H, L0, V⟩, P, I⟩ := id h
  obtain ⟨t1, t2, t3, t4, t5, t6, t7, t8, d1, d2, d3, d4⟩ := H
  have rl : ∀ j, j < 55 → j ≠ 3 → j ≠ 10 → j ≠ 11 → j ≠ 35 → u.1 j = a.1 j := lo
  have wo : ∀ k, k ≠ 115 → (k < 39 ∨ (111 ≤ k ∧ k < 143) ∨ 155 ≤ k) → t.1 89 k = b.1 89 k := fun k h1 h2 => by
    rw [w, ovr_lo (by omega), ovr_lo (by omega)]
    exact mu_cell (Or.inr h1)
  have w115 : t.1 89 115 = cn R := by
    rw [w, ovr_lo (by omega), ovr_lo (by omega)]
    exact mu_same
  refine SIM_forget h hn hnb (by rw [rl 2 (by decide) (by decide) (by decide) (by decide) (by decide)]; exact e2) (by rw [rl 4 (by decide) (by decide) (by decide) (by decide) (by decide)]; exact e4) (by rw [rl 8 (by decide) (by decide) (by decide) (by decide) (by decide)]; exact e8) ⟨?_, ?_, ?_, ?_, ?_, ?_, ?_, ?_, ?_, ?_, ?_, ?_⟩ (LTy_same L0 (fun k hk => wo k (by omega) (by omega))) ⟨?_, ?_, fun i hi => ?_⟩ f1 f2 (fun j h1 h2 => rl j (by omega) (by omega) (by omega) (by omega) (by omega)) c3 (congrFun (rl 0 (by decide) (by decide) (by decide) (by decide) (by decide)) 2) (fun j h1 h2 => rl j (by omega) (by omega) (by omega) (by omega) (by omega)) c4 r90
  · obtain ⟨g0, g1, m, hm, g3, gc, gx⟩ := t1
    have em : m = n := (cn_inj (by omega) (by omega)).mp (g3.symm.trans e2)
    subst em
    have u2 : u.1 2 = a.1 2 := rl 2 (by decide) (by decide) (by decide) (by decide) (by decide)
    refine ⟨by rw [show (1 + 1 : Nat) = 2 from rfl, u2]; exact g0, by rw [show (1 + 1 : Nat) = 2 from rfl, u2]; exact g1, m, hm, by rw [show (1 + 1 : Nat) = 2 from rfl, u2]; exact e2, (wo 112 (by decide) (by decide)).trans gc, fun r c hr hc => ?_⟩
    rw [show (1 + 1 + 1 : Nat) = 3 from rfl, k3 m hn e2 r c hr hc]
    by_cases h5 : c < 5
    · rw [if_pos h5, wo _ (by rcases ixG_cases (r := r) hc with q | q | q | q | q | q <;> omega) (by rcases ixG_cases (r := r) hc with q | q | q | q | q | q <;> omega)]
      exact gx r c hr hc
    · rw [if_neg h5]
      have ei : ixG r c = 39 + (6 * r + (c - 5)) := by
        rcases ixG_cases (r := r) hc with q | q | q | q | q | q <;> omega
      rw [ei, w, ovr_in (by omega)]
  · exact TWr_same t2 (rl _ (by decide) (by decide) (by decide) (by decide) (by decide)) (rl _ (by decide) (by decide) (by decide) (by decide) (by decide)) (wo _ (by decide) (by decide)) (fun x y hx hy => wo _ (by unfold ixB; omega) (by unfold ixB; omega))
  · exact LWr_same t3 (rl _ (by decide) (by decide) (by decide) (by decide) (by decide)) (rl _ (by decide) (by decide) (by decide) (by decide) (by decide)) (fun k hk => wo k (by omega) (by omega))
  · exact CWr_same t4 (rl _ (by decide) (by decide) (by decide) (by decide) (by decide)) (rl _ (by decide) (by decide) (by decide) (by decide) (by decide)) (fun k h1 h2 => wo k (by omega) (by omega))
  · refine ⟨(k10 0 (by decide)).trans t5.1, (k10 1 (by decide)).trans t5.2.1, R, hR, k103, w115, fun r c hr hc => ?_⟩
    rw [show (1 + 9 + 1 : Nat) = 11 from rfl, k11 _ (by omega), w, ovr_lo (by unfold ixS; omega), show ixS r c = 143 + (r * 2 + c) by unfold ixS; omega, ovr_in (by omega)]
  · exact TWr_same t6 (rl _ (by decide) (by decide) (by decide) (by decide) (by decide)) (rl _ (by decide) (by decide) (by decide) (by decide) (by decide)) (wo _ (by decide) (by decide)) (fun x y hx hy => wo _ (by unfold ixH; omega) (by unfold ixH; omega))
  · exact TWr_same t7 (rl _ (by decide) (by decide) (by decide) (by decide) (by decide)) (rl _ (by decide) (by decide) (by decide) (by decide) (by decide)) (wo _ (by decide) (by decide)) (fun x y hx hy => wo _ (by unfold ixR; omega) (by unfold ixR; omega))
  · exact TWr_same t8 (rl _ (by decide) (by decide) (by decide) (by decide) (by decide)) (rl _ (by decide) (by decide) (by decide) (by decide) (by decide)) (wo _ (by decide) (by decide)) (fun x y hx hy => wo _ (by unfold ixC; omega) (by unfold ixC; omega))
  · rw [rl 1 (by decide) (by decide) (by decide) (by decide) (by decide), wo 113 (by decide) (by decide)]; exact d1
  · rw [rl 1 (by decide) (by decide) (by decide) (by decide) (by decide), wo 114 (by decide) (by decide)]; exact d2
  · rw [rl 1 (by decide) (by decide) (by decide) (by decide) (by decide), wo 0 (by decide) (by decide)]; exact d3
  · rw [rl 1 (by decide) (by decide) (by decide) (by decide) (by decide), wo 1 (by decide) (by decide)]; exact d4
  · rw [wo 0 (by decide) (by decide)]; exact V.1
  · rw [wo 0 (by decide) (by decide)]; exact V.2.1
  · have Vi := V.2.2 i hi
    unfold VIg at Vi ⊢
    rw [wo (3 + i) (by omega) (by omega), wo (15 + i) (by omega) (by omega), wo (27 + i) (by omega) (by omega)]
    exact Vi
/-- the shifts taken -/
theorem SIM_shifts {a b u t : mG} {R : Nat} {cc : Nat → Int32} (h : SIM a b) (hR : R ≤ 12) (lo : ∀ j, j < 55 → j ≠ 12 → j ≠ 13 → j ≠ 35 → u.1 j = a.1 j) (k12 : ∀ c, c ≠ 3 → u.1 12 c = a.1 12 c) (k123 : u.1 12 3 = cn R) (k13 : ∀ j, j < R * 4 → u.1 13 j = cc j) (f1 : u.1 35 1 = ci 0) (f2 : u.1 35 2 = a.1 35 2) (c3 : t.1 88 3 = ci 0) (c4 : t.1 88 4 = b.1 88 4) (r90 : t.1 90 = b.1 90) (w : t.1 89 = ovr 155 (4 * R) cc (mu b.1 89 116 (cn R) 89)) : SIM u t := by
  obtain ⟨⟨n, nb, nc, hn, hnb, e2, e4, e8, H, L0, V⟩, P, I⟩ := id h
  obtain ⟨t1, t2, t3, t4, t5, t6, t7, t8, d1, d2, d3, d4⟩ := H
  have rl : ∀ j, j < 55 → j ≠ 12 → j ≠ 13 → j ≠ 35 → u.1 j = a.1 j := lo
  have wo : ∀ k, k ≠ 116 → (k < 155 ∨ 203 ≤ k) → t.1 89 k = b.1 89 k := fun k h1 h2 => by
    rw [w, ovr_lo (by omega)]
    exact mu_cell (Or.inr h1)
  have w116 : t.1 89 116 = cn R := by
    rw [w, ovr_lo (by omega)]
    exact mu_same
  refine SIM_forget h hn hnb (by rw [rl 2 (by decide) (by decide) (by decide) (by decide)]; exact e2) (by rw [rl 4 (by decide) (by decide) (by decide) (by decide)]; exact e4) (by rw [rl 8 (by decide) (by decide) (by decide) (by decide)]; exact e8) ⟨?_, ?_, ?_, ?_, ?_, ?_, ?_, ?_, ?_, ?_, ?_, ?_⟩ (LTy_same L0 (fun k hk => wo k (by omega) (by omega))) (VIm_congr hn (fun k hk => wo k (by omega) (by omega)) V) f1 f2 (fun j h1 h2 => rl j (by omega) (by omega) (by omega) (by omega)) c3 (congrFun (rl 0 (by decide) (by decide) (by decide) (by decide)) 2) (fun j h1 h2 => rl j (by omega) (by omega) (by omega) (by omega)) c4 r90
  · exact TWr_same t1 (rl _ (by decide) (by decide) (by decide) (by decide)) (rl _ (by decide) (by decide) (by decide) (by decide)) (wo _ (by decide) (by decide)) (fun x y hx hy => wo _ (by have := ixG_rng hx hy; omega) (by have := ixG_rng hx hy; omega))
  · exact TWr_same t2 (rl _ (by decide) (by decide) (by decide) (by decide)) (rl _ (by decide) (by decide) (by decide) (by decide)) (wo _ (by decide) (by decide)) (fun x y hx hy => wo _ (by unfold ixB; omega) (by unfold ixB; omega))
  · exact LWr_same t3 (rl _ (by decide) (by decide) (by decide) (by decide)) (rl _ (by decide) (by decide) (by decide) (by decide)) (fun k hk => wo k (by omega) (by omega))
  · exact CWr_same t4 (rl _ (by decide) (by decide) (by decide) (by decide)) (rl _ (by decide) (by decide) (by decide) (by decide)) (fun k h1 h2 => wo k (by omega) (by omega))
  · exact TWr_same t5 (rl _ (by decide) (by decide) (by decide) (by decide)) (rl _ (by decide) (by decide) (by decide) (by decide)) (wo _ (by decide) (by decide)) (fun x y hx hy => wo _ (by unfold ixS; omega) (by unfold ixS; omega))
  · refine ⟨(k12 0 (by decide)).trans t6.1, (k12 1 (by decide)).trans t6.2.1, R, hR, k123, w116, fun r c hr hc => ?_⟩
    rw [show (1 + 11 + 1 : Nat) = 13 from rfl, k13 _ (by omega), w, show ixH r c = 155 + (r * 4 + c) by unfold ixH; omega, ovr_in (by omega)]
  · exact TWr_same t7 (rl _ (by decide) (by decide) (by decide) (by decide)) (rl _ (by decide) (by decide) (by decide) (by decide)) (wo _ (by decide) (by decide)) (fun x y hx hy => wo _ (by unfold ixR; omega) (by unfold ixR; omega))
  · exact TWr_same t8 (rl _ (by decide) (by decide) (by decide) (by decide)) (rl _ (by decide) (by decide) (by decide) (by decide)) (wo _ (by decide) (by decide)) (fun x y hx hy => wo _ (by unfold ixC; omega) (by unfold ixC; omega))
  · rw [rl 1 (by decide) (by decide) (by decide) (by decide), wo 113 (by decide) (by decide)]; exact d1
  · rw [rl 1 (by decide) (by decide) (by decide) (by decide), wo 114 (by decide) (by decide)]; exact d2
  · rw [rl 1 (by decide) (by decide) (by decide) (by decide), wo 0 (by decide) (by decide)]; exact d3
  · rw [rl 1 (by decide) (by decide) (by decide) (by decide), wo 1 (by decide) (by decide)]; exact d4
end
