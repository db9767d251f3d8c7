noncomputable section
/-! SHIFTS; a whole text -/
section WHOLE
variable {T : Nat → Int32} {len r m : Nat} {B : Nat → Nat}
theorem S_shift {i R : Nat} {a b : mG} (hS : ST T len 2 m B) (h1 : CP T len m B i a) (h2 : RP T len 2 m B i b) (hk : a.1 55 14 = c16 278) (hR : RWs 62 4 12 R a b) (hR12 : R < 12) : rel (F_X7_readShift a) (F_X12_aShift b) (RQ T len 2 m B 62 4 12 R i) := by
  obtain ⟨l0, l1, l2, l3, l4, l5⟩ := hR
  unfold F_X7_readShift F_X7_readHead F_X7_readHead_30 F_X7_readShift_97 F_X12_aShift F_X12_aShift_90
  rw [if_pos hk, V_add l1 l3 (by decide) hR12, b2_some, if_neg (by
    intro q
    have q := r_eq (t_cn (n := R) (by omega)) t_cm1 q
    omega), b2_some, if_neg c1n0]
  have c1 : CP T len m B i (mu a.1 62 3 (cn (R + 1)), a.2) := CP_rows h1 (mu_rowQ (by omega)) (mu_rowQ (by omega)) (mu_rowQ (by omega))
  have r0 : RW2 62 4 12 R (4 * R + 0) (mu a.1 62 3 (cn (R + 1)), a.2) b := by
    refine ⟨hR12, ?_, ?_, ?_, l4, fun k hk => ?_⟩
    · exact (mu_cellQ (by omega)).trans l1
    · exact (mu_cellQ (by omega)).trans l2
    · exact mu_sameQ
    · exact (congrFun (mu_rowQ (by omega)) k).trans (l5 k (by omega))
  have e0 : (ci 4) * b.1 88 14 = cn (4 * R + 0) := by rw [l4, Nat.add_zero]; exact cn_mul (a := 4) (by omega) (by omega) (by omega)

  refine rel_b2 (S_named (c := 0) hS (Or.inr ⟨rfl, rfl, rfl⟩) c1 h2 (by decide) (fun h => K_word.2.2.2.1 h) (by omega) rfl e0 r0) (fun v u0 v2 w0 q => ?_)
  obtain ⟨q1, q2, q3, q4⟩ := q
  have q1 : v = v2 := q1
  by_cases hv : v = 0
  · rw [if_pos hv, if_pos (q1 ▸ hv)]
    exact rel_some ⟨rfl, pb0, fun _ => q3 hv, fun e => absurd c0e0 e⟩
  rw [if_neg hv, if_neg (fun e => hv (q1.trans e))]
  obtain ⟨f0a, f0b, f0c⟩ := q4 hv
  have e1 : (ci 4) * w0.1 88 14 + ci 1 = cn (4 * R + 1) := by
    rw [f0c.2.2.2.2.1, show (ci 4) * cn R = cn (4 * R) from cn_mul (a := 4) (by omega) (by omega) (by omega)]
    exact cn_add (b := 1) (by omega)
  refine rel_b2 (S_named (c := 1) hS (Or.inr ⟨rfl, rfl, rfl⟩) f0a f0b (by decide) (fun h => K_word.2.2.2.2.1 h) (by omega) rfl e1 f0c) (fun v u1 v2 w1 q => ?_)
  obtain ⟨q1, q2, q3, q4⟩ := q
  have q1 : v = v2 := q1
  by_cases hv : v = 0
  · rw [if_pos hv, if_pos (q1 ▸ hv)]
    exact rel_some ⟨rfl, pb0, fun _ => q3 hv, fun e => absurd c0e0 e⟩
  rw [if_neg hv, if_neg (fun e => hv (q1.trans e))]
  obtain ⟨f1a, f1b, f1c⟩ := q4 hv
  have e2 : (ci 4) * w1.1 88 14 + ci 2 = cn (4 * R + 2) := by
    rw [f1c.2.2.2.2.1, show (ci 4) * cn R = cn (4 * R) from cn_mul (a := 4) (by omega) (by omega) (by omega)]
    exact cn_add (b := 2) (by omega)
  refine rel_b2 (S_named (c := 2) hS (Or.inr ⟨rfl, rfl, rfl⟩) f1a f1b (by decide) (fun h => K_word.2.2.2.2.2.1 h) (by omega) rfl e2 f1c) (fun v u2 v2 w2 q => ?_)
  obtain ⟨q1, q2, q3, q4⟩ := q
  have q1 : v = v2 := q1
  by_cases hv : v = 0
  · rw [if_pos hv, if_pos (q1 ▸ hv)]
    exact rel_some ⟨rfl, pb0, fun _ => q3 hv, fun e => absurd c0e0 e⟩
  rw [if_neg hv, if_neg (fun e => hv (q1.trans e))]
  obtain ⟨f2a, f2b, f2c⟩ := q4 hv
  have e3 : (ci 4) * w2.1 88 14 + ci 3 = cn (4 * R + 3) := by
    rw [f2c.2.2.2.2.1, show (ci 4) * cn R = cn (4 * R) from cn_mul (a := 4) (by omega) (by omega) (by omega)]
    exact cn_add (b := 3) (by omega)
  refine rel_b2 (S_named (c := 3) hS (Or.inr ⟨rfl, rfl, rfl⟩) f2a f2b (by decide) (fun h => K_word.2.2.2.2.2.2 h) (by omega) rfl e3 f2c) (fun v u3 v2 w3 q => ?_)
  obtain ⟨q1, q2, q3, q4⟩ := q
  have q1 : v = v2 := q1
  by_cases hv : v = 0
  · rw [if_pos hv, if_pos (q1 ▸ hv)]
    exact rel_some ⟨rfl, pb0, fun _ => q3 hv, fun e => absurd c0e0 e⟩
  rw [if_neg hv, if_neg (fun e => hv (q1.trans e))]
  obtain ⟨f3a, f3b, f3c⟩ := q4 hv
  refine rel_b2 (S_pass0 hS f3a f3b (by decide) (K_semi hS.2.1)) (fun v u4 v2 w4 q => ?_)
  obtain ⟨q1, q2, q3, q4⟩ := q
  have q1 : v = v2 := q1
  by_cases hv : v = 0
  · rw [if_pos hv, if_pos (q1 ▸ hv)]
    exact rel_some ⟨rfl, pb0, fun _ => q3 hv, fun e => absurd c0e0 e⟩
  rw [if_neg hv, if_neg (fun e => hv (q1.trans e))]
  obtain ⟨x1, x2, x3, x4⟩ := q4 hv
  refine rel_some ⟨rfl, pb1, fun e => absurd e c1n0, fun _ => ⟨_, ?_, x1, x2, ?_⟩⟩
  · omega
  · obtain ⟨m0, m1, m2, m3, m4, m5⟩ := f3c
    refine ⟨m0, ?_, ?_, ?_, ?_, fun k hk => ?_⟩
    · rw [x3.2.1 62 (by omega)]; exact m1
    · rw [x3.2.1 62 (by omega)]; exact m2
    · rw [x3.2.1 62 (by omega)]; exact m3
    · rw [x4.2.2 14 (by omega) (by omega) (by omega) (by omega)]; exact m4
    · rw [x3.2.1 (62 + 1) (by omega), x4.2.1 94 (by omega)]; exact m5 k (by omega)
/-- the head of a row refused -/
theorem S_headNo {i : Nat} {w : Int32} {a b : mG} {INV : Nat → mG → mG → Prop} (hS : ST T len r m B) (h1 : CP T len m B i a) (h2 : RP T len r m B i b) {F : mG → Option (Int32 × mG)} (hF : F a = some (ci 0, (mu (mu a.1 55 10 w) 55 11 (a.1 55 16), a.2))) : rel (F a) (b2 (F_X12_bad w b) fun v11 s10 => if v11 = 0 ∨ v11 = 1 then (some (Sum.inr (v11, s10)) : Option ((Int32 × mG) ⊕ (Int32 × mG))) else none) (ROWP INV i) := by
  have g := (PR_facts hS h1 h2).2.1
  rw [hF, V_bad, b2_some, if_pos pbo0]
  refine rel_some (Or.inl ⟨c0e0, _, Or.inl rfl, ?_, ?_⟩)
  · exact ((mu_cellQ (by omega)).trans mu_same).trans ((mu_cellQ (by omega)).trans mu_same).symm
  · exact mu_sameQ.trans (g.trans mu_sameQ.symm)
/-- a row read, and counted -/
theorem S_93 {t W M R i : Nat} {x y : Option (Int32 × mG)} (hM : M < 100) (hW : W * R + W = W * (R + 1)) (ht : t = 60 ∨ t = 62) (h : rel x y (RQ T len r m B t W M R i)) : rel x (b2 y fun v16 s15 => F_X12_readsRows_93 v16 s15) (ROWP (INVR T len r m B t W M) i) := by
  intro τ hτ z hz
  obtain ⟨v16, s15, e15, hz⟩ := m_b2 hz
  obtain ⟨q1, q2, q3, q4⟩ := h τ hτ (v16, s15) e15
  have q1 : τ.1 = v16 := q1
  unfold F_X12_readsRows_93 F_X12_readsRows_108 at hz
  by_cases hv : v16 = 0
  · rw [if_pos hv] at hz
    have hz := Option.some.inj hz
    subst hz
    have f := q3 (q1.trans hv)
    refine Or.inl ⟨q1.trans hv, _, Or.inr (by rw [hv, show (0 : Int32) = ci 0 by decide]), ?_⟩
    exact ⟨f.1.trans (mu_cellQ (by omega)).symm, f.2.trans (mu_cellQ (by omega)).symm⟩
  · rw [if_neg hv] at hz
    have hz := Option.some.inj hz
    subst hz
    have hne : ¬ τ.1 = 0 := fun e => hv (q1.symm.trans e)
    obtain ⟨i', z1, z2, z3, z4⟩ := q4 hne
    have hv1 : v16 = ci 1 := (q1.symm.trans (q2.resolve_left hne)).trans (by decide)
    obtain ⟨m0, m1, m2, m3, m4, m5⟩ := z4
    have m4 : s15.1 88 14 = cn R := m4
    refine Or.inr ⟨hne, (mu s15.1 88 14 (s15.1 88 14 + ci 1), s15.2), by rw [hv1], i', z1, z2, RP_same z3 (mu_rowQ (by omega)) (fun c hc => mu_cellQ (by omega)), R + 1, by omega, m1, m2, m3, ?_, fun k hk => ?_⟩
    · refine mu_sameQ.trans ?_
      rw [m4]
      exact cnu (by omega)
    · rw [show ((mu s15.1 88 14 (s15.1 88 14 + ci 1), s15.2) : mG).1 94 = s15.1 94 from mu_rowQ (by omega)]
      exact m5 k (by omega)

theorem S_signLoop {i x : Nat} {a b : mG} (hS : ST T len 1 m B) (hx : x ≤ i) (h : INVR T len 1 m B 60 2 6 i a b) : rel (F_X7_readText_L64 (ci 1) (cn x) a) (F_X12_readsRows_L7 (ci 1) b) (TXP (INVR T len 1 m B 60 2 6) m) := by
  refine S_loop (rdc := F_X7_readSign) (rdr := fun b => F_X12_readsRows_37 (b.1 88 17) (c8 7) b) (INVR T len 1 m B 60 2 6) hS (Or.inr (Or.inl ⟨by decide, rfl, rfl⟩)) (fun i a b h => ⟨h.1, h.2.1⟩) (fun i a b h => ?_) (fun b => ?_) (fun i a b h hi => ?_) (m - i) i x a b (Nat.le_refl _) hx h
  · rw [RR_bw]
    unfold F_X12_readsRows_B7 F_X12_readsRows_115
    have e11 : b.1 88 11 = ci 1 := h.2.1.2.2.1.1
    rw [if_neg c1n0, bw_if, bw_b1r, if_pos pbo1, if_pos e11]
  · rw [RR_bw]
    unfold F_X12_readsRows_B7 F_X12_readsRows_115
    rw [if_pos c0e0, bw_b1r, if_pos pbo0]
  · obtain ⟨h1, h2, R, hR⟩ := h
    have hK := (PR_facts hS h1 h2).1
    have e11 : b.1 88 11 = ci 1 := h2.2.2.1.1
    unfold F_X12_readsRows_37
    by_cases hk : a.1 55 14 = c16 275
    · have hw : b.1 88 17 = c8 7 := (K_word.1 hK).mpr hk
      unfold F_X12_readsRows_65
      rw [if_pos hw]
      have hRl := hR
      obtain ⟨l0, l1, l2, l3, l4, l5⟩ := hRl
      by_cases h6 : R < 6
      · have n6 : ¬ b.1 88 14 = c8 6 := by
          rw [l4]
          intro q
          have q := (cn_inj (a := R) (b := 6) (by omega) (by omega)).mp (q.trans (by decide))
          omega
        rw [if_pos e11, if_pos e11, if_neg n6]
        exact S_93 (by omega) (by omega) (Or.inl rfl) (S_sign hS h1 h2 hk hR h6)
      · have n6 : b.1 88 14 = c8 6 := by rw [l4, show R = 6 by omega]; decide
        rw [if_pos e11, if_pos n6]
        refine S_headNo hS h1 h2 ?_
        unfold F_X7_readSign F_X7_readHead 
        rw [if_pos hk, V_add1 l1 l3 (by omega) (by decide) h6, b2_some, if_pos rfl, V_refuse, b2_some, if_pos c0e0, b2_some, if_pos c0e0]
    · have hw : ¬ b.1 88 17 = c8 7 := fun q => hk ((K_word.1 hK).mp q)
      rw [if_neg hw]
      refine S_headNo hS h1 h2 ?_
      unfold F_X7_readSign F_X7_readHead 
      rw [if_neg hk, V_refuse, b2_some, if_pos pbo0, b2_some, if_pos c0e0]

theorem S_shiftLoop {i x : Nat} {a b : mG} (hS : ST T len 2 m B) (hx : x ≤ i) (h : INVR T len 2 m B 62 4 12 i a b) : rel (F_X7_readText_L64 (ci 2) (cn x) a) (F_X12_readsRows_L7 (ci 1) b) (TXP (INVR T len 2 m B 62 4 12) m) := by
  refine S_loop (rdc := F_X7_readShift) (rdr := fun b => F_X12_readsRows_37 (b.1 88 17) (c8 10) b) (INVR T len 2 m B 62 4 12) hS (Or.inr (Or.inr ⟨by decide, by decide, rfl⟩)) (fun i a b h => ⟨h.1, h.2.1⟩) (fun i a b h => ?_) (fun b => ?_) (fun i a b h hi => ?_) (m - i) i x a b (Nat.le_refl _) hx h
  · rw [RR_bw]
    unfold F_X12_readsRows_B7 F_X12_readsRows_115
    have e11 : b.1 88 11 = ci 2 := h.2.1.2.2.1.1
    rw [if_neg c1n0, bw_if, bw_b1r, if_pos pbo1, if_neg (show ¬ b.1 88 11 = ci 1 by rw [e11]; decide)]
  · rw [RR_bw]
    unfold F_X12_readsRows_B7 F_X12_readsRows_115
    rw [if_pos c0e0, bw_b1r, if_pos pbo0]
  · obtain ⟨h1, h2, R, hR⟩ := h
    have hK := (PR_facts hS h1 h2).1
    have e11 : b.1 88 11 = ci 2 := h2.2.2.1.1
    unfold F_X12_readsRows_37
    by_cases hk : a.1 55 14 = c16 278
    · have hw : b.1 88 17 = c8 10 := (K_word.2.2.2.1 hK).mpr hk
      unfold F_X12_readsRows_65
      rw [if_pos hw]
      have hRl := hR
      obtain ⟨l0, l1, l2, l3, l4, l5⟩ := hRl
      by_cases h6 : R < 12
      · have n6 : ¬ b.1 88 14 = c8 12 := by
          rw [l4]
          intro q
          have q := (cn_inj (a := R) (b := 12) (by omega) (by omega)).mp (q.trans (by decide))
          omega
        rw [if_neg (show ¬ b.1 88 11 = ci 1 by rw [e11]; decide), if_neg (show ¬ b.1 88 11 = ci 1 by rw [e11]; decide), if_neg n6]
        exact S_93 (by omega) (by omega) (Or.inr rfl) (S_shift hS h1 h2 hk hR h6)
      · have n6 : b.1 88 14 = c8 12 := by rw [l4, show R = 12 by omega]; decide
        rw [if_neg (show ¬ b.1 88 11 = ci 1 by rw [e11]; decide), if_pos n6]
        refine S_headNo hS h1 h2 ?_
        unfold F_X7_readShift F_X7_readHead F_X7_readShift_97
        rw [if_pos hk, V_add1 l1 l3 (by omega) (by decide) h6, b2_some, if_pos rfl, V_refuse, b2_some, if_pos c0e0, b2_some, if_pos c0e0]
    · have hw : ¬ b.1 88 17 = c8 10 := fun q => hk ((K_word.2.2.2.1 hK).mp q)
      rw [if_neg hw]
      refine S_headNo hS h1 h2 ?_
      unfold F_X7_readShift F_X7_readHead F_X7_readShift_97
      rw [if_neg hk, V_refuse, b2_some, if_pos pbo0, b2_some, if_pos c0e0]

end WHOLE
end
