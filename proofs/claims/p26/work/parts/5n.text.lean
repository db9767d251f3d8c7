noncomputable section
/-! A TEXT, read by both: row by row -/
section TEXT
variable {T : Nat → Int32} {len r m : Nat} {B : Nat → Nat}
/-- what a row comes to -/
def ROWP (INV : Nat → mG → mG → Prop) (i : Nat) (τ : Int32 × mG) (s : (Int32 × mG) ⊕ (Int32 × mG)) : Prop := (τ.1 = 0 ∧ ∃ y, (s = Sum.inr (ci 0, y) ∨ s = Sum.inl (ci 0, y)) ∧ FE τ.2 y) ∨ (¬ τ.1 = 0 ∧ ∃ y, s = Sum.inl (ci 1, y) ∧ ∃ i', i < i' ∧ INV i' τ.2 y)
def TXP (INV : Nat → mG → mG → Prop) (m : Nat) (τ υ : Int32 × mG) : Prop := τ.1 = υ.1 ∧ PB τ.1 ∧ (τ.1 = 0 → FE τ.2 υ.2) ∧ (¬ τ.1 = 0 → INV m τ.2 υ.2)
theorem TL_bw {x1 x2 : Int32} {a : mG} : F_X7_readText_L64 x1 x2 a = bw (F_X7_readText_B64 x1 x2 a) (fun v => F_X7_readText_L64 v.1 v.2.1 v.2.2) := whl_bw _ _
theorem T_106 {x1 x2 v : Int32} {a : mG} : bw (F_X7_readText_106 x1 x2 v a) (fun v => F_X7_readText_L64 v.1 v.2.1 v.2.2) = if v = 0 then some (ci 0, a) else F_X7_readText_L64 x1 (x2 + ci 1) a := by
  unfold F_X7_readText_106
  rw [bw_if]
  rfl
/-- the class's loop, one turn -/
theorem T_turn {k : Int32} {rdc : mG → Option (Int32 × mG)} (hk : (k = 0 ∧ rdc = F_X7_readLaw) ∨ (¬ k = 0 ∧ k = ci 1 ∧ rdc = F_X7_readSign) ∨ (¬ k = 0 ∧ ¬ k = ci 1 ∧ rdc = F_X7_readShift)) {x : Nat} {a : mG} (hx : x ≤ 400) (h : x = 400 → a.1 55 14 = ci (-1)) : F_X7_readText_L64 k (cn x) a = if a.1 55 14 = ci (-1) then some (ci 1, a) else b2 (rdc a) fun v s => if v = 0 then some (ci 0, s) else F_X7_readText_L64 k (cn (x + 1)) s := by
  rw [TL_bw]
  unfold F_X7_readText_B64 F_X7_readText_119
  by_cases he : a.1 55 14 = ci (-1)
  · rw [if_pos he, if_pos he]
    by_cases h4 : c16 400 ≤ cn x
    · rw [if_pos h4, bw_b1r]
    · rw [if_neg h4, bw_b1r]
  · have hx4 : x < 400 := by
      have : x ≠ 400 := fun e => he (h e)
      omega
    rw [if_neg he, if_neg he, if_neg (n400 hx4)]
    have fin : ∀ F : mG → Option (Int32 × mG), bw (b2 (F a) fun v s => F_X7_readText_106 k (cn x) v s) (fun v => F_X7_readText_L64 v.1 v.2.1 v.2.2) = b2 (F a) fun v s => if v = 0 then some (ci 0, s) else F_X7_readText_L64 k (cn (x + 1)) s := fun F => by
      rw [bw_b2]
      congr 1
      funext v s
      rw [T_106, cnu (by omega)]
    rcases hk with ⟨e, e2⟩ | ⟨e0, e, e2⟩ | ⟨e0, e, e2⟩
    · subst e2; rw [if_pos e]; exact fin _
    · subst e2; rw [if_neg e0, if_pos e]; exact fin _
    · subst e2; rw [if_neg e0, if_neg e]; exact fin _
theorem S_loop {k : Int32} {rdc : mG → Option (Int32 × mG)} {rdr : mG → Option ((Int32 × mG) ⊕ (Int32 × mG))} {Lr : Int32 → mG → Option (Int32 × mG)} (INV : Nat → mG → mG → Prop) (hS : ST T len r m B)
    (hk : (k = 0 ∧ rdc = F_X7_readLaw) ∨ (¬ k = 0 ∧ k = ci 1 ∧ rdc = F_X7_readSign) ∨ (¬ k = 0 ∧ ¬ k = ci 1 ∧ rdc = F_X7_readShift))
    (hinv : ∀ i a b, INV i a b → CP T len m B i a ∧ RP T len r m B i b)
    (h1 : ∀ i a b, INV i a b → Lr (ci 1) b = if b.1 88 17 = 0 then some (ci 1, b) else bw (rdr b) (fun v => Lr v.1 v.2)) (h0 : ∀ b, Lr (ci 0) b = some (ci 0, b))
    (hrow : ∀ i a b, INV i a b → i < m → rel (rdc a) (rdr b) (ROWP INV i)) : ∀ (n i x : Nat) (a b : mG), m - i ≤ n → x ≤ i → INV i a b → rel (F_X7_readText_L64 k (cn x) a) (Lr (ci 1) b) (TXP INV m) := by
  have hKend : ∀ i a b, INV i a b → (b.1 88 17 = 0 ↔ a.1 55 14 = ci (-1)) := fun i a b h => by
    have hp := hinv i a b h
    have hK := (PR_facts hS hp.1 hp.2).1
    have e : r = 0 ∨ r = 1 ∨ r = 2 := by have := hS.2.1; omega
    rcases e with e | e | e <;> subst e <;> exact KP_iff (v := 0) (z := -1) (by decide) (by decide) (by decide +kernel) hK
  intro n
  induction n with
  | zero =>
    intro i x a b hn hx h
    have hp := hinv i a b h
    have him := hp.1.2.1
    have m4 := hS.2.2.1
    have he := (PR_facts hS hp.1 hp.2).2.2.2.mpr (by omega)
    rw [T_turn hk (by omega) (fun _ => he), if_pos he, h1 i a b h, if_pos ((hKend i a b h).mpr he)]
    exact rel_some ⟨rfl, pb1, fun e => absurd e c1n0, fun _ => (show i = m by omega) ▸ h⟩
  | succ n ih =>
    intro i x a b hn hx h
    have hp := hinv i a b h
    have him := hp.1.2.1
    have m4 := hS.2.2.1
    have hend := (PR_facts hS hp.1 hp.2).2.2.2
    rw [T_turn hk (by omega) (fun e => hend.mpr (by omega)), h1 i a b h]
    refine rel_ifs (hKend i a b h).symm (fun e => ?_) (fun e => ?_)
    · exact rel_some ⟨rfl, pb1, fun e => absurd e c1n0, fun _ => (hend.mp e) ▸ h⟩
    · have hi := S_lt hS hp.1 hp.2 e
      intro τ hτ υ hυ
      obtain ⟨v, s, e1, hτ⟩ := m_b2 hτ
      have e2 : ∃ z, rdr b = some z ∧ bw (some z) (fun v => Lr v.1 v.2) = some υ := by
        cases hz : rdr b with
        | none => rw [hz] at hυ; cases hυ
        | some z => rw [hz] at hυ; exact ⟨z, rfl, hυ⟩
      obtain ⟨z, e2, hυ⟩ := e2
      rcases hrow i a b h hi (v, s) e1 z e2 with ⟨q1, y, q2, q3⟩ | ⟨q1, y, q2, i', q3, q4⟩
      · have q1 : v = 0 := q1
        rw [if_pos q1] at hτ
        have hτ := Option.some.inj hτ
        have hυ2 : υ = (ci 0, y) := by
          rcases q2 with q2 | q2
          · rw [q2, bw_r] at hυ; exact (Option.some.inj hυ).symm
          · rw [q2, bw_l, h0] at hυ; exact (Option.some.inj hυ).symm
        subst hτ; subst hυ2
        exact ⟨rfl, pb0, fun _ => q3, fun e => absurd c0e0 e⟩
      · have q1 : ¬ v = 0 := q1
        rw [if_neg q1] at hτ
        rw [q2, bw_l] at hυ
        exact ih i' (x + 1) s y (by omega) (by omega) q4 τ hτ υ hυ
/-! the law -/
def INVL (T : Nat → Int32) (len m : Nat) (B : Nat → Nat) (i : Nat) (a b : mG) : Prop := ∃ nc L, SX T len 0 m B i nc 0 [] a b ∧ LL L L a b
theorem LW_bw {x : Int32} {b : mG} : F_X12_readsLaw_L12 x b = bw (F_X12_readsLaw_B12 x b) (fun v => F_X12_readsLaw_L12 v.1 v.2) := whl_bw _ _
def rdL (b : mG) : Option ((Int32 × mG) ⊕ (Int32 × mG)) := b2 (F_X12_aLine b) fun v8 s7 => if v8 = 0 then F_X12_readsLaw_42 v8 (s7.1 88 12) (ci 0) s7 else F_X12_readsLaw_42 v8 (s7.1 88 12) (ci 1) s7
theorem S_lawLoop {i x : Nat} {a b : mG} (hS : ST T len 0 m B) (hx : x ≤ i) (h : INVL T len m B i a b) : rel (F_X7_readText_L64 (ci 0) (cn x) a) (F_X12_readsLaw_L12 (ci 1) b) (TXP (INVL T len m B) m) := by
  refine S_loop (rdc := F_X7_readLaw) (rdr := rdL) (INVL T len m B) hS (Or.inl ⟨by decide, rfl⟩) (fun i a b h => ?_) (fun i a b _ => ?_) (fun b => ?_) (fun i a b h hi => ?_) (m - i) i x a b (Nat.le_refl _) hx h
  · obtain ⟨nc, L, h1, _⟩ := h
    exact ⟨h1.1, h1.2.1⟩
  · rw [LW_bw]
    unfold F_X12_readsLaw_B12 F_X12_readsLaw_49
    rw [if_neg c1n0, bw_if, bw_b1r, if_pos pbo1]
    rfl
  · rw [LW_bw]
    unfold F_X12_readsLaw_B12 F_X12_readsLaw_49
    rw [if_pos c0e0, bw_b1r, if_pos pbo0]
  · obtain ⟨nc, L, h1, h2⟩ := h
    intro τ hτ z hz
    unfold rdL at hz
    obtain ⟨v8, s7, e7, hz⟩ := m_b2 hz
    obtain ⟨q1, q2, q3, q4⟩ := S_line hS h1 h2 τ hτ (v8, s7) e7
    unfold F_X12_readsLaw_42 at hz
    have q1 : τ.1 = v8 := q1
    by_cases hv : v8 = 0
    · rw [if_pos hv] at hz
      have hz := Option.some.inj hz
      subst hz
      refine Or.inl ⟨q1.trans hv, _, Or.inr (by rw [hv, show (0 : Int32) = ci 0 by decide]), ?_⟩
      have f := q3 (q1.trans hv)
      exact ⟨f.1.trans (mu_cellQ (by omega)).symm, f.2.trans (mu_cellQ (by omega)).symm⟩
    · rw [if_neg hv] at hz
      have hz := Option.some.inj hz
      subst hz
      have hne : ¬ τ.1 = 0 := fun e => hv (q1.symm.trans e)
      obtain ⟨i', nc', z1, z2, z3⟩ := q4 hne
      have hv1 : v8 = ci 1 := (q1.symm.trans (q2.resolve_left hne)).trans (by decide)
      refine Or.inr ⟨hne, (mu s7.1 88 12 (s7.1 88 12 + ci 1), s7.2), by rw [hv1], i', z1, nc', L + 1, ?_, ?_⟩
      · obtain ⟨y1, y2, y3, y4⟩ := z2
        exact ⟨y1, RP_same y2 (mu_rowQ (by omega)) (fun c hc => mu_cellQ (by omega)), CodeR_rows y3 rfl rfl (mu_rowQ (by omega)) (mu_cellQ (by omega)), y4⟩
      · obtain ⟨l0, l1, l2, l3, l4, l5⟩ := z3
        refine ⟨l0, l1, l2, l3, ?_, fun j hj => ?_⟩
        · refine mu_sameQ.trans ?_
          have l4 : s7.1 88 12 = cn L := l4
          rw [l4, cnu (by omega)]
        · rw [show ((mu s7.1 88 12 (s7.1 88 12 + ci 1), s7.2) : mG).1 92 = s7.1 92 from mu_rowQ (by omega)]
          exact l5 j hj
/-! signs and shifts -/
def RWs (t W M R : Nat) (a b : mG) : Prop := R ≤ M ∧ a.1 t 0 = cn M ∧ a.1 t 1 = cn W ∧ a.1 t 3 = cn R ∧ b.1 88 14 = cn R ∧ ∀ k, k < W * R → a.1 (t + 1) k = b.1 94 k
def INVR (T : Nat → Int32) (len r m : Nat) (B : Nat → Nat) (t W M : Nat) (i : Nat) (a b : mG) : Prop := CP T len m B i a ∧ RP T len r m B i b ∧ ∃ R, RWs t W M R a b
theorem RR_bw {x : Int32} {b : mG} : F_X12_readsRows_L7 x b = bw (F_X12_readsRows_B7 x b) (fun v => F_X12_readsRows_L7 v.1 v.2) := whl_bw _ _
theorem K_word {kc kr : Int32} : (KP 1 kc kr → (kr = c8 7 ↔ kc = c16 275)) ∧ (KP 1 kc kr → (kr = c8 8 ↔ kc = c16 276)) ∧ (KP 1 kc kr → (kr = c8 9 ↔ kc = c16 277)) ∧ (KP 2 kc kr → (kr = c8 10 ↔ kc = c16 278)) ∧ (KP 2 kc kr → (kr = c8 11 ↔ kc = c16 279)) ∧ (KP 2 kc kr → (kr = c8 12 ↔ kc = c16 280)) ∧ (KP 2 kc kr → (kr = c8 13 ↔ kc = c16 281)) :=
  ⟨KP_iff (v := 7) (z := 275) (by decide) (by decide) (by decide +kernel), KP_iff (v := 8) (z := 276) (by decide) (by decide) (by decide +kernel), KP_iff (v := 9) (z := 277) (by decide) (by decide) (by decide +kernel), KP_iff (v := 10) (z := 278) (by decide) (by decide) (by decide +kernel), KP_iff (v := 11) (z := 279) (by decide) (by decide) (by decide +kernel), KP_iff (v := 12) (z := 280) (by decide) (by decide) (by decide +kernel), KP_iff (v := 13) (z := 281) (by decide) (by decide) (by decide +kernel)⟩
/-- what a row's reading comes to -/
def RQ (T : Nat → Int32) (len r m : Nat) (B : Nat → Nat) (t W M R i : Nat) (τ υ : Int32 × mG) : Prop := τ.1 = υ.1 ∧ PB τ.1 ∧ (τ.1 = 0 → FE τ.2 υ.2) ∧ (¬ τ.1 = 0 → ∃ i', i < i' ∧ CP T len m B i' τ.2 ∧ RP T len r m B i' υ.2 ∧ RW2 t W M R (W * R + W) τ.2 υ.2)
theorem S_sign {i R : Nat} {a b : mG} (hS : ST T len 1 m B) (h1 : CP T len m B i a) (h2 : RP T len 1 m B i b) (hk : a.1 55 14 = c16 275) (hR : RWs 60 2 6 R a b) (hR6 : R < 6) : rel (F_X7_readSign a) (F_X12_aSign b) (RQ T len 1 m B 60 2 6 R i) := by
  obtain ⟨l0, l1, l2, l3, l4, l5⟩ := hR
  have hi := S_lt hS h1 h2 (by rw [hk]; decide)
  have hK := (PR_facts hS h1 h2).1
  have hw : b.1 88 17 = c8 7 := (K_word.1 hK).mpr hk
  unfold F_X7_readSign F_X7_readHead F_X7_readHead_30 F_X7_readSign_71 F_X12_aSign F_X12_aSign_63
  rw [if_pos hk, V_add l1 l3 (by decide) hR6, b2_some, if_neg (by
    intro q
    have q := r_eq (t_cn (n := R) (by omega)) t_cm1 q
    omega), b2_some, if_neg c1n0]
  unfold F_X12_need
  rw [if_pos hw, b2_b1]
  have c1 : CP T len m B i (mu a.1 60 3 (cn (R + 1)), a.2) := CP_rows h1 (mu_rowQ (by omega)) (mu_rowQ (by omega)) (mu_rowQ (by omega))
  refine rel_b1 (S_step0 hS c1 h2 hi) (fun u w q => ?_)
  obtain ⟨g1, g2, g3, g4⟩ := q
  rw [b2_some, if_neg c1n0]
  have w14 : w.1 88 14 = cn R := by rw [g4.2.2 14 (by omega) (by omega) (by omega) (by omega)]; exact l4
  have e2 : (ci 2) * cn R = cn (2 * R + 0) := by rw [Nat.add_zero]; exact cn_mul (a := 2) (by omega) (by omega) (by omega)
  have r0 : RW2 60 2 6 R (2 * R + 0) u w := by
    refine ⟨hR6, ?_, ?_, ?_, w14, fun k hk => ?_⟩
    · rw [g3.2.1 60 (by omega)]; exact (mu_cellQ (by omega)).trans l1
    · rw [g3.2.1 60 (by omega)]; exact (mu_cellQ (by omega)).trans l2
    · rw [g3.2.1 60 (by omega)]; exact mu_sameQ
    · rw [g3.2.1 (60 + 1) (by omega), g4.2.1 94 (by omega)]
      exact (congrFun (mu_rowQ (by omega)) k).trans (l5 k (by omega))
  refine rel_b2 (S_named (c := 0) hS (Or.inl ⟨rfl, rfl, rfl⟩) g1 g2 (by decide) (fun h => K_word.2.1 h) (by omega) rfl (by rw [w14]; exact e2) r0) (fun v u2 v2 w2 q => ?_)
  obtain ⟨q1, q2, q3, q4⟩ := q
  have q1 : v = v2 := q1
  by_cases hv : v = 0
  · rw [if_pos hv, if_pos (q1 ▸ hv)]
    exact rel_some ⟨rfl, pb0, fun _ => q3 hv, fun e => absurd c0e0 e⟩
  rw [if_neg hv, if_neg (fun e => hv (q1.trans e))]
  obtain ⟨f1, f2, f3⟩ := q4 hv
  have e3 : (ci 2) * w2.1 88 14 + ci 1 = cn (2 * R + 1) := by
    rw [f3.2.2.2.2.1, show (ci 2) * cn R = cn (2 * R) from cn_mul (a := 2) (by omega) (by omega) (by omega)]
    exact cnu (by omega)
  refine rel_b2 (S_named (c := 1) hS (Or.inl ⟨rfl, rfl, rfl⟩) f1 f2 (by decide) (fun h => K_word.2.2.1 h) (by omega) rfl e3 f3) (fun v u3 v2 w3 q => ?_)
  obtain ⟨q1, q2, q3, q4⟩ := q
  have q1 : v = v2 := q1
  by_cases hv : v = 0
  · rw [if_pos hv, if_pos (q1 ▸ hv)]
    exact rel_some ⟨rfl, pb0, fun _ => q3 hv, fun e => absurd c0e0 e⟩
  rw [if_neg hv, if_neg (fun e => hv (q1.trans e))]
  obtain ⟨y1, y2, y3⟩ := q4 hv
  refine rel_b2 (S_pass0 hS y1 y2 (by decide) (K_semi hS.2.1)) (fun v u4 v2 w4 q => ?_)
  obtain ⟨q1, q2, q3, q4⟩ := q
  have q1 : v = v2 := q1
  by_cases hv : v = 0
  · rw [if_pos hv, if_pos (q1 ▸ hv)]
    exact rel_some ⟨rfl, pb0, fun _ => q3 hv, fun e => absurd c0e0 e⟩
  rw [if_neg hv, if_neg (fun e => hv (q1.trans e))]
  obtain ⟨x1, x2, x3, x4⟩ := q4 hv
  refine rel_some ⟨rfl, pb1, fun e => absurd e c1n0, fun _ => ⟨_, ?_, x1, x2, ?_⟩⟩
  · omega
  · obtain ⟨m0, m1, m2, m3, m4, m5⟩ := y3
    refine ⟨m0, ?_, ?_, ?_, ?_, fun k hk => ?_⟩
    · rw [x3.2.1 60 (by omega)]; exact m1
    · rw [x3.2.1 60 (by omega)]; exact m2
    · rw [x3.2.1 60 (by omega)]; exact m3
    · rw [x4.2.2 14 (by omega) (by omega) (by omega) (by omega)]; exact m4
    · rw [x3.2.1 (60 + 1) (by omega), x4.2.1 94 (by omega)]; exact m5 k (by omega)
end TEXT
end
