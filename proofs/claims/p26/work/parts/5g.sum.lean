noncomputable section
/-! A SUM OF THE LAW, read by both -/
theorem b2_b2 {α β γ δ ε : Type} {x : Option (α × β)} {f : α → β → Option (γ × δ)} {g : γ → δ → Option ε} : b2 (b2 x f) g = b2 x (fun u v => b2 (f u v) g) := by cases x <;> rfl
theorem b2_if {α β γ : Type} {c : Prop} [Decidable c] {x y : Option (α × β)} {g : α → β → Option γ} : b2 (if c then x else y) g = if c then b2 x g else b2 y g := by
  by_cases h : c
  · rw [if_pos h, if_pos h]
  · rw [if_neg h, if_neg h]
theorem b1_b1 {α β γ : Type} {x : Option α} {f : α → Option β} {g : β → Option γ} : b1 (b1 x f) g = b1 x (fun u => b1 (f u) g) := by cases x <;> rfl
section SUM
variable {T : Nat → Int32} {len m : Nat} {B : Nat → Nat}
theorem EN_op {q : Nat × Nat} {y x : Int32} (hq : q ∈ OPL) (hy : y = cn q.1) (hx : x = cn (q.2 * 10000)) {v : Int32} : EN x y v := Or.inr (Or.inr (Or.inr ⟨q, hq, hy, hx⟩))
/-- what the kinds say of each other, the law being read -/
theorem K_num {kc kr : Int32} (h : KP 0 kc kr) : kr = ci 2 ↔ kc = c8 (-2) := KP_iff (v := 2) (z := -2) (by decide) (by decide) (by decide +kernel) h
theorem K_plus {kc kr : Int32} (h : KP 0 kc kr) : kr = c16 143 ↔ kc = c8 43 := KP_iff (v := 143) (z := 43) (by decide) (by decide) (by decide +kernel) h
theorem K_less {kc kr : Int32} (h : KP 0 kc kr) : kr = c16 145 ↔ kc = c8 45 := KP_iff (v := 145) (z := 45) (by decide) (by decide) (by decide +kernel) h
theorem K_times {kc kr : Int32} (h : KP 0 kc kr) : kr = c16 142 ↔ kc = c8 42 := KP_iff (v := 142) (z := 42) (by decide) (by decide) (by decide +kernel) h
theorem K_part {kc kr : Int32} (h : KP 0 kc kr) : kr = c16 147 ↔ kc = c8 47 := KP_iff (v := 147) (z := 47) (by decide) (by decide) (by decide +kernel) h
theorem K_name {kc kr : Int32} (h : KP 0 kc kr) : ((41 ≤ kr.toInt ∧ kr.toInt ≤ 49) ↔ (262 ≤ kc.toInt ∧ kc.toInt ≤ 270)) ∧ (262 ≤ kc.toInt ∧ kc.toInt ≤ 270 → kr.toInt - 41 = kc.toInt - 262) := KP_rng (by decide +kernel) h
theorem wi_in {x a b : Int32} (h1 : a.toInt ≤ x.toInt) (h2 : x.toInt ≤ b.toInt) : wi x a b = ci 1 := by
  unfold wi
  rw [if_neg (fun q => by rw [Int32.lt_iff_toInt_lt] at q; omega), if_neg (fun q => by rw [Int32.lt_iff_toInt_lt] at q; omega)]
theorem wi_out {x a b : Int32} (h : ¬ (a.toInt ≤ x.toInt ∧ x.toInt ≤ b.toInt)) : wi x a b = ci 0 := by
  unfold wi
  by_cases h1 : x < a
  · rw [if_pos h1]
  · rw [if_neg h1]
    rw [Int32.lt_iff_toInt_lt] at h1
    rw [if_pos (by rw [Int32.lt_iff_toInt_lt]; omega)]
theorem S_unit {i nc k : Nat} {a b : mG} (hS : ST T len 0 m B) (h : SX T len 0 m B i nc k [] a b) : rel (F_X7_readUnit a) (F_X12_unit b) (PRO T len 0 m B i k a b) := by
  obtain ⟨h1, h2, h3, h4⟩ := h
  obtain ⟨hK, _, hval, hend⟩ := PR_facts hS h1 h2
  have m4 := hS.2.2.1
  -- a step is laid, and both step on
  have go : ∀ x s v, EN x s v → i < m → rel (b1 (F_X10_push 58 x a) fun s4 => F_X7_readUnit_68 s4) (b1 (F_X12_lay s v b) fun s6 => b1 (F_X12_next0 s6) fun s8 => some ((ci 1), s8)) (PRO T len 0 m B i k a b) := by
    intro x s v he hi
    refine rel_b1 (S_emit h1 h2 h3 he (by omega)) (fun u w q => ?_)
    obtain ⟨q1, q2, q3, q4, q5⟩ := q
    unfold F_X7_readUnit_68
    refine rel_b1 (S_step (k' := k) hS q1 q2 q3 hi (by omega)) (fun u' w' q => ?_)
    obtain ⟨z1, z2, z3⟩ := q
    exact rel_some ⟨rfl, CG_tr q4 (CG_step z2), RG_tr q5 (RG_next z3), fun e => absurd e c1n0, fun _ => ⟨i + 1, nc + 1, by omega, z1⟩⟩
  unfold F_X7_readUnit F_X12_unit
  rw [F_isIn, b1_some]
  dsimp only
  by_cases hN : a.1 55 14 = c8 (-2)
  · have hr : b.1 88 17 = ci 2 := (K_num hK).mpr hN
    have hi : i < m := S_lt hS h1 h2 (by rw [hN]; decide)
    rw [if_pos hN, if_pos hr]
    unfold F_X12_unit_30 F_X12_unit_46
    rw [if_pos (show wi (b.1 88 17) (c8 41) (c8 49) = 0 by rw [hr]; decide)]
    have hb := RP_num hS h2 hr
    exact go _ _ _ (Or.inl ⟨rfl, by rw [hval hN]; exact Int32.zero_add _, hb⟩) hi
  · rw [if_neg hN, if_neg (fun q => hN ((K_num hK).mp q))]
    have hn := K_name hK
    have e1 : ((a.1 55 14 - c16 256) - c8 6).toInt = (a.1 55 14).toInt - 256 - 6 := by
      have b1 := hK.2.1
      have b2 := hK.2.2
      have e0 : (a.1 55 14 - c16 256).toInt = (a.1 55 14).toInt - 256 := r_sub rfl (by decide : (c16 256).toInt = 256) (by omega) (by omega)
      exact r_sub e0 (by decide : (c8 6).toInt = 6) (by omega) (by omega)
    by_cases hm : 262 ≤ (a.1 55 14).toInt ∧ (a.1 55 14).toInt ≤ 270
    · have hi : i < m := S_lt hS h1 h2 (fun e => by rw [e, t_cm1] at hm; omega)
      have hr := hn.1.mpr hm
      have hd := hn.2 hm
      have hw : wi (b.1 88 17) (c8 41) (c8 49) = ci 1 := wi_in (by rw [show (c8 41).toInt = 41 by decide]; exact hr.1) (by rw [show (c8 49).toInt = 49 by decide]; exact hr.2)
      rw [hw, if_neg c1n0, if_neg (t_of_nn (by omega)), if_neg (fun q => by
        have q := r_le (by decide : (c8 9).toInt = 9) e1 q
        omega)]
      unfold F_X12_unit_30 F_X12_unit_46
      rw [if_neg c1n0]
      refine go _ _ _ (Or.inr (Or.inl ⟨((a.1 55 14).toInt - 262).toNat, by omega, ?_, ?_⟩)) hi
      · refine Int32.toInt_inj.mp ?_
        rw [r_sub rfl (by decide : (c8 40).toInt = 40) (by omega) (by omega), t_cn (by omega)]
        omega
      · refine Int32.toInt_inj.mp ?_
        rw [r_add (by decide : (c16 10000).toInt = 10000) e1 (by omega) (by omega), t_cn (by omega)]
        omega
    · have hw : wi (b.1 88 17) (c8 41) (c8 49) = ci 0 := wi_out (by rw [show (c8 41).toInt = 41 by decide, show (c8 49).toInt = 49 by decide]; exact fun q => hm (hn.1.mp q))
      rw [hw, if_pos c0e0]
      unfold F_X7_readUnit_62
      have ff := rel_fl (S_fail (w := ci 1) hS h1 h2 CG_rfl RG_rfl i k)
      by_cases hl : ((a.1 55 14 - c16 256) - c8 6) < 0
      · rw [if_pos hl]; exact ff
      · rw [if_neg hl, if_pos]
        · exact ff
        · have q := t_nn hl
          rw [Int32.le_iff_toInt_le, e1, show (c8 9).toInt = 9 by decide]
          omega
/-- behind a unit, a product and a sum go on -/
def rcont (p : Int32) (b : mG) : Option (Int32 × mG) := b2 (F_X12_product_L9 b) fun v s => if v = 0 then some ((ci 0), s) else if p = ci (-1) then F_X12_sumUp_L9 s else b1 (F_X12_lay (if p = ci 2 then c8 23 else c8 24) (ci 0) s) fun s14 => F_X12_sumUp_L9 s14
theorem sumUp_rc {b : mG} : F_X12_sumUp b = b2 (F_X12_unit b) fun v s => if v = 0 then some ((ci 0), s) else rcont (ci (-1)) s := by
  unfold F_X12_sumUp F_X12_product rcont
  rw [b2_b2]
  congr 1
  funext v s
  rw [b2_if, b2_some]
  by_cases h : v = 0
  · rw [if_pos h, if_pos h, if_pos c0e0]
  · rw [if_neg h, if_neg h]
    simp only [if_true]
theorem sumUp_46 {y p : Int32} {b : mG} (hp : ¬ p = ci (-1)) (hy : y = if p = ci 2 then c8 23 else c8 24) : bw (F_X12_sumUp_46 y b) F_X12_sumUp_L9 = b1 (F_X12_next0 b) fun s8 => b2 (F_X12_unit s8) fun v s => if v = 0 then some ((ci 0), s) else rcont p s := by
  unfold F_X12_sumUp_46 F_X12_product rcont
  rw [bw_b1]
  congr 1
  funext s8
  rw [bw_b2, b2_b2]
  congr 1
  funext v s
  rw [b2_if, b2_some]
  by_cases h : v = 0
  · rw [if_pos h, if_pos h, if_pos c0e0, bw_r]
  · rw [if_neg h, if_neg h]
    congr 1
    funext v2 s2
    rw [bw_if, bw_r, bw_b1]
    by_cases h2 : v2 = 0
    · rw [if_pos h2, if_pos h2]
    · rw [if_neg h2, if_neg h2, if_neg hp, hy]
      congr 1
def pn (p : Int32) : Nat := if p = ci (-1) then 0 else 1
theorem RS_bw {p x : Int32} {a : mG} : F_X7_readSum_L13 p x a = bw (F_X7_readSum_B13 p x a) (fun v => F_X7_readSum_L13 v.1 v.2.1 v.2.2) := whl_bw _ _
theorem PL_bw {b : mG} : F_X12_product_L9 b = bw (F_X12_product_B9 b) F_X12_product_L9 := whl_bw _ _
theorem SL_bw {b : mG} : F_X12_sumUp_L9 b = bw (F_X12_sumUp_B9 b) F_X12_sumUp_L9 := whl_bw _ _
theorem b2_b1 {α β γ δ : Type} {x : Option α} {f : α → Option (β × γ)} {g : β → γ → Option δ} : b2 (b1 x f) g = b1 x (fun u => b2 (f u) g) := by cases x <;> rfl
theorem CP_kind {i : Nat} {a u : mG} (h : CP T len m B i a) (k : CP T len m B i u) (e : u.1 66 = a.1 66) : u.1 55 14 = a.1 55 14 := by
  rw [k.2.2.2.1, h.2.2.2.1, e]
theorem CG_66 {a u : mG} (h : CG a u) : u.1 66 = a.1 66 := h.2.1 66 (by decide) (by decide) (by decide)
theorem EN_p {p v : Int32} (h : p = ci 2 ∨ p = ci 3) : EN (p * c16 10000) (if p = ci 2 then c8 23 else c8 24) v := by
  rcases h with e | e
  · subst e; exact EN_op (q := (23, 2)) (by decide) (by decide) (by decide)
  · subst e; exact EN_op (q := (24, 3)) (by decide) (by decide) (by decide)
/-- the pending sum is laid, where the class steps first -/
theorem S_pend {i j l nc k : Nat} {p : Int32} {a b : mG} {R : mG → mG → Prop} (hp : p = ci (-1) ∨ p = ci 2 ∨ p = ci 3) (h1 : CP T len m B i a) (h2 : RP T len 0 m B j b) (h3 : CodeR nc [] a b) (h4 : nc + (k + pn p) ≤ l) (h5 : l ≤ 400) (hR : ∀ u w nc', CP T len m B i u → RP T len 0 m B j w → CodeR nc' [] u w → nc' + k ≤ l → CG a u → RG b w → R u w) : rel (F_X7_emitIfAny p a) (if p = ci (-1) then some b else F_X12_lay (if p = ci 2 then c8 23 else c8 24) (ci 0) b) R := by
  unfold F_X7_emitIfAny
  unfold pn at h4
  by_cases hm : p = ci (-1)
  · rw [if_pos hm, if_pos hm]
    rw [if_pos hm] at h4
    exact rel_some (hR a b nc h1 h2 h3 (by omega) CG_rfl RG_rfl)
  · rw [if_neg hm, if_neg hm, b1_id]
    rw [if_neg hm] at h4
    refine rel_mono (S_emit h1 h2 h3 (EN_p (hp.resolve_left hm)) (by omega)) (fun u w q => ?_)
    exact hR u w (nc + 1) q.1 q.2.1 q.2.2.1 (by omega) q.2.2.2.1 q.2.2.2.2
theorem rcont_eq {p : Int32} {b : mG} : rcont p b = b2 (F_X12_product_L9 b) fun v s => if v = 0 then some ((ci 0), s) else b1 (if p = ci (-1) then some s else F_X12_lay (if p = ci 2 then c8 23 else c8 24) (ci 0) s) fun s14 => F_X12_sumUp_L9 s14 := by
  unfold rcont
  congr 1
  funext v s
  by_cases h : p = ci (-1)
  · simp only [if_pos h, b1_some]
  · simp only [if_neg h]
/-- no sign of reckoning: the sum is whole -/
theorem S_sum_end {k i nc t : Nat} {p : Int32} {a b a0 b0 : mG} {i0 : Nat} (hS : ST T len 0 m B) (hi0 : i0 < i) (ht : t < i) (hp : p = ci (-1) ∨ p = ci 2 ∨ p = ci 3) (h : SX T len 0 m B i nc (k + pn p) [] a b) (hC : CG a0 a) (hR : RG b0 b) (n43 : ¬ a.1 55 14 = c8 43) (n45 : ¬ a.1 55 14 = c8 45) (n42 : ¬ a.1 55 14 = c8 42) (n47 : ¬ a.1 55 14 = c8 47) : rel (F_X7_readSum_L13 p (cn t) a) (rcont p b) (PRO T len 0 m B i0 k a0 b0) := by
  obtain ⟨h1, h2, h3, h4⟩ := h
  have hK := (PR_facts hS h1 h2).1
  have him := h1.2.1
  have m4 := hS.2.2.1
  rw [RS_bw, rcont_eq, PL_bw]
  unfold F_X7_readSum_B13 F_X7_isReckoning F_X12_product_B9 F_X7_readSum_114
  rw [if_neg (fun q => by have q := (cle (x := c16 400) (a := 400) (y := cn t) (by decide) rfl (by omega) (by omega)).mp q; omega), if_neg n43, if_neg n45, if_neg n42, if_neg n47, b1_some, if_pos c0e0, bw_b1r, if_neg (fun q => n42 ((K_times hK).mp q)), if_neg (fun q => n47 ((K_part hK).mp q)), bw_r, b2_some, if_neg c1n0]
  refine rel_b1 (S_pend (R := fun u w => ∃ nc', CP T len m B i u ∧ RP T len 0 m B i w ∧ CodeR nc' [] u w ∧ nc' + k ≤ i ∧ CG a u ∧ RG b w) hp h1 h2 h3 h4 (by omega) (fun u w nc' q1 q2 q3 q4 q5 q6 => ⟨nc', q1, q2, q3, q4, q5, q6⟩)) (fun u w q => ?_)
  obtain ⟨nc', q1, q2, q3, q4, q5, q6⟩ := q
  have hK2 := (PR_facts hS q1 q2).1
  have ek := CP_kind h1 q1 (CG_66 q5)
  rw [SL_bw]
  unfold F_X12_sumUp_B9
  rw [if_neg (fun q => n43 (ek ▸ (K_plus hK2).mp q)), if_neg (fun q => n45 (ek ▸ (K_less hK2).mp q)), bw_r]
  exact rel_some ⟨rfl, CG_tr hC q5, RG_tr hR q6, fun e => absurd e c1n0, fun _ => ⟨i, nc', hi0, q1, q2, q3, q4⟩⟩
theorem S_sum {k : Nat} {a0 b0 : mG} {i0 : Nat} (hS : ST T len 0 m B) : ∀ (n i nc t : Nat) (p : Int32) (a b : mG), m - i ≤ n → i0 < i → t < i → (p = ci (-1) ∨ p = ci 2 ∨ p = ci 3) → SX T len 0 m B i nc (k + pn p) [] a b → CG a0 a → RG b0 b → rel (F_X7_readSum_L13 p (cn t) a) (rcont p b) (PRO T len 0 m B i0 k a0 b0) := by
  intro n
  induction n with
  | zero =>
    intro i nc t p a b hn hi0 ht hp h hC hR
    have him := h.1.2.1
    have hk := (PR_facts hS h.1 h.2.1).2.2.2.mpr (by omega)
    exact S_sum_end hS hi0 ht hp h hC hR (by rw [hk]; decide) (by rw [hk]; decide) (by rw [hk]; decide) (by rw [hk]; decide)
  | succ n ih =>
    intro i nc t p a b hn hi0 ht hp h hC hR
    have h0 := h
    obtain ⟨h1, h2, h3, h4⟩ := h
    have hK := (PR_facts hS h1 h2).1
    have him := h1.2.1
    have m4 := hS.2.2.1
    have nt : ¬ c16 400 ≤ cn t := fun q => by have q := (cle (x := c16 400) (a := 400) (y := cn t) (by decide) rfl (by omega) (by omega)).mp q; omega
    -- what a failed piece comes to
    have fail : ∀ (x : mG) (y : mG) (i1 k1 : Nat) (a1 b1' : mG) (v w : Int32), CG a0 a1 → RG b0 b1' → PRO T len 0 m B i1 k1 a1 b1' (v, x) (w, y) → v = 0 → PRO T len 0 m B i0 k a0 b0 (ci 0, x) (ci 0, y) := fun x y i1 k1 a1 b1' v w c1 c2 q e => ⟨rfl, CG_tr c1 q.2.1, RG_tr c2 q.2.2.1, fun _ => q.2.2.2.1 e, fun e => absurd c0e0 e⟩
    by_cases n43 : a.1 55 14 = c8 43
    · have hi : i < m := S_lt hS h1 h2 (by rw [n43]; decide)
      rw [RS_bw, rcont_eq, PL_bw]
      unfold F_X7_readSum_B13 F_X7_isReckoning F_X7_isReckoning_24 F_X12_product_B9
      rw [if_neg nt, if_pos n43, b1_some, if_neg c1n0, bw_b1, if_neg (fun q => absurd (n43.symm.trans ((K_times hK).mp q)) (by decide)), if_neg (fun q => absurd (n43.symm.trans ((K_part hK).mp q)) (by decide)), bw_r, b2_some, if_neg c1n0]
      refine rel_l1 (V_stepOn h1 hi) (fun u hu => ?_)
      rw [if_pos n43]
      unfold F_X7_readSum_51 F_X7_readSum_67
      rw [bw_b1]
      refine rel_b1 (S_pend (l := i) (R := fun u2 w => ∃ nc', CP T len m B (i + 1) u2 ∧ RP T len 0 m B i w ∧ CodeR nc' [] u2 w ∧ nc' + k ≤ i ∧ CG u u2 ∧ RG b w) hp hu.1 h2 (CodeR_step h3 hu.2 NF_rfl) h4 (by omega) (fun u2 w nc' q1 q2 q3 q4 q5 q6 => ⟨nc', q1, q2, q3, q4, q5, q6⟩)) (fun u2 w q => ?_)
      obtain ⟨nc', q1, q2, q3, q4, q5, q6⟩ := q
      have hK2 := (PR_facts hS h1 q2).1
      rw [SL_bw]
      unfold F_X12_sumUp_B9 F_X12_sumUp_29
      rw [if_pos ((K_plus hK2).mpr n43), if_pos ((K_plus hK2).mpr n43), sumUp_46 (p := ci 2) (by decide) (if_pos rfl).symm, if_pos n43]
      refine rel_r1 (V_next hS q1.1 q2 hi) (fun w2 hw => ?_)
      unfold F_X7_readSum_68 F_X7_readSum_91
      rw [if_neg (fun e => absurd (n43.symm.trans e) (by decide)), bw_b2]
      have c1 : CG a0 u2 := CG_tr hC (CG_tr (CG_step hu.2) q5)
      have c2 : RG b0 w2 := RG_tr hR (RG_tr q6 (RG_next hw.2))
      refine rel_b2 (S_unit (k := k + 1) hS ⟨q1, hw.1, CodeR_step q3 CFr_rfl hw.2, by omega⟩) (fun v u3 v2 w3 q => ?_)
      have ev : v = v2 := q.1
      by_cases hv : v = 0
      · rw [if_pos hv, if_pos (ev ▸ hv), bw_b1r]
        exact rel_some (fail _ _ _ _ _ _ _ _ c1 c2 q hv)
      · rw [if_neg hv, if_neg (fun e => hv (ev.trans e))]
        obtain ⟨i', nc2, z1, z2⟩ := q.2.2.2.2 hv
        unfold F_X7_readSum_93 F_X7_readSum_105 F_X7_emitIfAny
        rw [if_neg (fun e => absurd (n43.symm.trans e) (by decide)), if_pos rfl, b1_some, bw_l, cnu (by omega)]
        exact ih i' nc2 (t + 1) (ci 2) u3 w3 (by omega) (by omega) (by omega) (Or.inr (Or.inl rfl)) z2 (CG_tr c1 q.2.1) (RG_tr c2 q.2.2.1)
    by_cases n45 : a.1 55 14 = c8 45
    · have hi : i < m := S_lt hS h1 h2 (by rw [n45]; decide)
      rw [RS_bw, rcont_eq, PL_bw]
      unfold F_X7_readSum_B13 F_X7_isReckoning F_X7_isReckoning_24 F_X12_product_B9
      rw [if_neg nt, if_neg n43, if_pos n45, b1_some, if_neg c1n0, bw_b1, if_neg (fun q => absurd (n45.symm.trans ((K_times hK).mp q)) (by decide)), if_neg (fun q => absurd (n45.symm.trans ((K_part hK).mp q)) (by decide)), bw_r, b2_some, if_neg c1n0]
      refine rel_l1 (V_stepOn h1 hi) (fun u hu => ?_)
      rw [if_neg n43, if_pos n45]
      unfold F_X7_readSum_51 F_X7_readSum_67
      rw [bw_b1]
      refine rel_b1 (S_pend (l := i) (R := fun u2 w => ∃ nc', CP T len m B (i + 1) u2 ∧ RP T len 0 m B i w ∧ CodeR nc' [] u2 w ∧ nc' + k ≤ i ∧ CG u u2 ∧ RG b w) hp hu.1 h2 (CodeR_step h3 hu.2 NF_rfl) h4 (by omega) (fun u2 w nc' q1 q2 q3 q4 q5 q6 => ⟨nc', q1, q2, q3, q4, q5, q6⟩)) (fun u2 w q => ?_)
      obtain ⟨nc', q1, q2, q3, q4, q5, q6⟩ := q
      have hK2 := (PR_facts hS h1 q2).1
      rw [SL_bw]
      unfold F_X12_sumUp_B9 F_X12_sumUp_29
      rw [if_neg (fun q => n43 ((K_plus hK2).mp q)), if_pos ((K_less hK2).mpr n45), if_neg (fun q => n43 ((K_plus hK2).mp q)), sumUp_46 (p := ci 3) (by decide) (if_neg (by decide)).symm, if_neg n43]
      refine rel_r1 (V_next hS q1.1 q2 hi) (fun w2 hw => ?_)
      unfold F_X7_readSum_68 F_X7_readSum_91
      rw [if_neg (fun e => absurd (n45.symm.trans e) (by decide)), bw_b2]
      have c1 : CG a0 u2 := CG_tr hC (CG_tr (CG_step hu.2) q5)
      have c2 : RG b0 w2 := RG_tr hR (RG_tr q6 (RG_next hw.2))
      refine rel_b2 (S_unit (k := k + 1) hS ⟨q1, hw.1, CodeR_step q3 CFr_rfl hw.2, by omega⟩) (fun v u3 v2 w3 q => ?_)
      have ev : v = v2 := q.1
      by_cases hv : v = 0
      · rw [if_pos hv, if_pos (ev ▸ hv), bw_b1r]
        exact rel_some (fail _ _ _ _ _ _ _ _ c1 c2 q hv)
      · rw [if_neg hv, if_neg (fun e => hv (ev.trans e))]
        obtain ⟨i', nc2, z1, z2⟩ := q.2.2.2.2 hv
        unfold F_X7_readSum_93 F_X7_readSum_105 F_X7_emitIfAny
        rw [if_neg (fun e => absurd (n45.symm.trans e) (by decide)), if_pos rfl, b1_some, bw_l, cnu (by omega)]
        exact ih i' nc2 (t + 1) (ci 3) u3 w3 (by omega) (by omega) (by omega) (Or.inr (Or.inr rfl)) z2 (CG_tr c1 q.2.1) (RG_tr c2 q.2.2.1)
    by_cases n42 : a.1 55 14 = c8 42
    · have hi : i < m := S_lt hS h1 h2 (by rw [n42]; decide)
      rw [RS_bw, rcont_eq, PL_bw]
      unfold F_X7_readSum_B13 F_X7_isReckoning F_X7_isReckoning_24 F_X12_product_B9 F_X12_product_29 F_X12_product_44 F_X12_product_112
      rw [if_neg nt, if_neg n43, if_neg n45, if_pos n42, b1_some, if_neg c1n0, bw_b1, if_pos ((K_times hK).mpr n42), if_neg (fun q => absurd (n42.symm.trans ((K_part hK).mp q)) (by decide)), bw_b1, b2_b1]
      refine rel_b1 (S_step (k' := k + pn p + 1) hS h1 h2 h3 hi (by omega)) (fun u w q => ?_)
      obtain ⟨q1, q2, q3⟩ := q
      rw [if_neg n43, if_neg n45, if_pos c0e0, bw_b2, b2_b2]
      unfold F_X7_readSum_68 F_X7_readSum_91
      rw [if_neg (fun e => absurd (n42.symm.trans e) (by decide)), bw_b2]
      refine rel_b2 (S_unit hS q1) (fun v u2 v2 w2 q => ?_)
      have ev : v = v2 := q.1
      by_cases hv : v = 0
      · rw [if_pos hv, if_pos (ev ▸ hv), bw_r, b2_some, if_pos c0e0, bw_b1r]
        exact rel_some (fail _ _ _ _ _ _ _ _ (CG_tr hC (CG_step q2)) (RG_tr hR (RG_next q3)) q hv)
      · rw [if_neg hv, if_neg (fun e => hv (ev.trans e))]
        obtain ⟨i', nc', z1, z2⟩ := q.2.2.2.2 hv
        obtain ⟨y1, y2, y3, y4⟩ := z2
        have him' := y1.2.1
        unfold F_X7_readSum_93 F_X7_readSum_105 F_X7_emitIfAny
        rw [if_pos n42, if_neg (by decide), b1_id, bw_b1, bw_b1, b2_b1]
        refine rel_b1 (S_emit y1 y2 y3 (EN_op (q := (25, 4)) (by decide) (by decide) (by decide)) (by omega)) (fun u3 w3 q' => ?_)
        obtain ⟨x1, x2, x3, x4, x5⟩ := q'
        rw [bw_l, bw_l, cnu (by omega)]
        have hr := ih i' (nc' + 1) (t + 1) p u3 w3 (by omega) (by omega) (by omega) hp ⟨x1, x2, x3, by omega⟩ (CG_tr hC (CG_tr (CG_step q2) (CG_tr q.2.1 x4))) (RG_tr hR (RG_tr (RG_next q3) (RG_tr q.2.2.1 x5)))
        rw [rcont_eq] at hr
        exact hr
    by_cases n47 : a.1 55 14 = c8 47
    · have hi : i < m := S_lt hS h1 h2 (by rw [n47]; decide)
      rw [RS_bw, rcont_eq, PL_bw]
      unfold F_X7_readSum_B13 F_X7_isReckoning F_X7_isReckoning_24 F_X12_product_B9 F_X12_product_29 F_X12_product_44 F_X12_product_112
      rw [if_neg nt, if_neg n43, if_neg n45, if_neg n42, if_pos n47, b1_some, if_neg c1n0, bw_b1, if_neg (fun q => n42 ((K_times hK).mp q)), if_pos ((K_part hK).mpr n47), if_pos ((K_part hK).mpr n47), bw_b1, b2_b1]
      refine rel_b1 (S_step (k' := k + pn p + 1) hS h1 h2 h3 hi (by omega)) (fun u w q => ?_)
      obtain ⟨⟨g1, g2, g3, g4⟩, q2, q3⟩ := q
      rw [if_neg n43, if_neg n45, if_neg c1n0]
      unfold F_X7_readSum_68 F_X7_readSum_91 F_X7_readPart
      obtain ⟨hKu, hpl, hval, _⟩ := PR_facts hS g1 g2
      rw [if_pos n47, bw_b2]
      have c1 : CG a0 u := CG_tr hC (CG_step q2)
      have c2 : RG b0 w := RG_tr hR (RG_next q3)
      -- both refuse
      have no : ∀ y : Int32, rel (b2 (b2 (F_X7_refuse y u) fun v s => if v = 0 ∨ v = 1 then some (v, s) else none) fun v s => bw (if v = 0 then b1 (some ((ci 0), s)) fun τ => some (Sum.inr τ) else F_X7_readSum_93 p (cn t) (a.1 55 14) s) (fun v => F_X7_readSum_L13 v.1 v.2.1 v.2.2)) (b2 (bw (b2 (F_X12_bad y w) fun v s => if v = 0 ∨ v = 1 then some (Sum.inr (v, s)) else none) F_X12_product_L9) fun v s => if v = 0 then some ((ci 0), s) else b1 (if p = ci (-1) then some s else F_X12_lay (if p = ci 2 then c8 23 else c8 24) (ci 0) s) fun s14 => F_X12_sumUp_L9 s14) (PRO T len 0 m B i0 k a0 b0) := by
        intro y
        have ff := S_fail (w := y) hS g1 g2 c1 c2 i0 k
        rw [V_refuse, V_bad] at ff ⊢
        rw [b2_some, if_pos pbo0, b2_some, if_pos c0e0, bw_b1r, b2_some, if_pos pbo0, bw_r, b2_some, if_pos c0e0]
        exact ff
      by_cases hN : u.1 55 14 = c8 (-2)
      · have hr : w.1 88 17 = ci 2 := (K_num hKu).mpr hN
        have hv := hval hN
        rw [if_pos hN, if_pos hr]
        by_cases hz : u.1 55 15 = 0
        · rw [if_pos hz, if_pos (hv ▸ hz)]
          exact no (ci 2)
        · rw [if_neg hz, if_neg (fun e => hz (hv.trans e))]
          have hi2 : i + 1 < m := S_lt hS g1 g2 (by rw [hN]; decide)
          have hb := RP_num hS g2 hr
          have hb1 : 1 ≤ (w.1 88 19).toInt := by
            have : (w.1 88 19).toInt ≠ 0 := fun e => hz (hv.trans (Int32.toInt_inj.mp (e.trans t_zero.symm)))
            omega
          rw [V_push g3.1 g3.2.1 (by omega), b1_some, b2_b1]
          refine rel_l1 (V_stepOn (CP_code g1) hi2) (fun u3 hu3 => ?_)
          rw [b2_some, if_neg c1n0, bw_b1, b2_b1]
          refine rel_r1 (V_next hS g1.1 g2 hi2) (fun w2 hw2 => ?_)
          have h13 : w2.1 88 13 = cn nc := (CodeR_step g3 CFr_rfl hw2.2).2.2.1
          rw [bw_b1, b2_b1]
          refine rel_r1 (V_lay h13 (by omega)) (fun w3 hw3 => ?_)
          subst hw3
          have hcode : CodeR (nc + 1) [] u3 (mu (mu (mu w2.1 93 (2 * nc) (c8 26)) 93 (2 * nc + 1) (w.1 88 19)) 88 13 (cn (nc + 1)), w2.2) :=
            CodeR_step (CodeR_add (u := (mu (mu u.1 58 3 (cn (nc + 1))) 59 nc (ci 50000 + u.1 55 15), u.2)) (w := (mu (mu (mu w2.1 93 (2 * nc) (c8 26)) 93 (2 * nc + 1) (w.1 88 19)) 88 13 (cn (nc + 1)), w2.2)) (CodeR_step g3 CFr_rfl hw2.2) (Or.inr (Or.inr (Or.inl ⟨by decide, by rw [hv], hb1, hb.2⟩))) rfl rfl) hu3.2 NF_rfl
          unfold F_X7_readSum_93 F_X7_readSum_105 F_X7_emitIfAny
          rw [if_neg (fun e => absurd (n47.symm.trans e) (by decide)), if_pos rfl, b1_some, bw_l, bw_l, cnu (by omega)]
          have hr := ih (i + 1 + 1) (nc + 1) (t + 1) p u3 _ (by omega) (by omega) (by omega) hp ⟨hu3.1, RP_lay hw2.1, hcode, by omega⟩ (CG_tr c1 (CG_tr CG_code (CG_step hu3.2))) (RG_tr c2 (RG_tr (RG_next hw2.2) RG_lay))
          rw [rcont_eq] at hr
          exact hr
      · rw [if_neg hN, if_neg (fun q => hN ((K_num hKu).mp q))]
        exact no (ci 1)
    exact S_sum_end hS hi0 ht hp h0 hC hR n43 n45 n42 n47
/-- a sum -/
theorem S_readSum {i nc k : Nat} {a b : mG} (hS : ST T len 0 m B) (h : SX T len 0 m B i nc k [] a b) : rel (F_X7_readSum a) (F_X12_sumUp b) (PRO T len 0 m B i k a b) := by
  rw [sumUp_rc]
  unfold F_X7_readSum
  refine rel_b2 (S_unit hS h) (fun v u v2 w q => ?_)
  have ev : v = v2 := q.1
  by_cases hv : v = 0
  · rw [if_pos hv, if_pos (ev ▸ hv)]
    exact rel_some ⟨rfl, q.2.1, q.2.2.1, fun _ => q.2.2.2.1 hv, fun e => absurd c0e0 e⟩
  · rw [if_neg hv, if_neg (fun e => hv (ev.trans e))]
    obtain ⟨i', nc', z1, z2⟩ := q.2.2.2.2 hv
    exact S_sum (i0 := i) hS (m - i') i' nc' 0 (ci (-1)) u w (Nat.le_refl _) z1 (by omega) (Or.inl rfl) z2 q.2.1 q.2.2.1
end SUM
end
