noncomputable section
/-! SIGNS AND SHIFTS, read by both -/
section ROWS
variable {T : Nat → Int32} {len r m : Nat} {B : Nat → Nat}
theorem S_step0 {i : Nat} {a b : mG} (hS : ST T len r m B) (h1 : CP T len m B i a) (h2 : RP T len r m B i b) (hi : i < m) : rel (F_X7_stepOn a) (F_X12_next0 b) (fun u w => CP T len m B (i + 1) u ∧ RP T len r m B (i + 1) w ∧ CFr a u ∧ NF b w) := by
  intro u hu w hw
  obtain ⟨g1, g2⟩ := V_stepOn h1 hi u hu
  obtain ⟨g3, g4⟩ := V_next hS h1.1 h2 hi w hw
  exact ⟨g1, g3, g2, g4⟩
theorem S_pass0 {i : Nat} {a b : mG} {x y : Int32} (hS : ST T len r m B) (h1 : CP T len m B i a) (h2 : RP T len r m B i b) (hx : ¬ x = ci (-1)) (hk : ∀ {kc kr : Int32}, KP r kc kr → (kr = y ↔ kc = x)) : rel (F_X7_pass x a) (F_X12_need y b) (fun τ υ => τ.1 = υ.1 ∧ PB τ.1 ∧ (τ.1 = 0 → FE τ.2 υ.2) ∧ (¬ τ.1 = 0 → CP T len m B (i + 1) τ.2 ∧ RP T len r m B (i + 1) υ.2 ∧ CFr a τ.2 ∧ NF b υ.2)) := by
  have hK := (PR_facts hS h1 h2).1
  unfold F_X7_pass F_X12_need
  refine rel_ifs (hk hK).symm (fun e => ?_) (fun e => ?_)
  · have hi := S_lt hS h1 h2 (by rw [e]; exact hx)
    refine rel_b1 (S_step0 hS h1 h2 hi) (fun u w q => ?_)
    exact rel_some ⟨rfl, pb1, fun e => absurd e c1n0, fun _ => q⟩
  · refine rel_b2 (S_fail0 hS h1 h2) (fun v u v2 w q => ?_)
    obtain ⟨q1, q2, q3⟩ := q
    have q1 : v = ci 0 := q1
    have q2 : v2 = ci 0 := q2
    subst q1; subst q2
    exact rel_lp (rel_rp (rel_some ⟨rfl, pb0, fun _ => q3, fun e => absurd c0e0 e⟩))
theorem K_num1 {kc kr : Int32} (hr : r < 3) (h : KP r kc kr) : kr = ci 2 ↔ kc = c8 (-2) := by
  have e : r = 0 ∨ r = 1 ∨ r = 2 := by omega
  rcases e with e | e | e <;> subst e <;> exact KP_iff (v := 2) (z := -2) (by decide) (by decide) (by decide +kernel) h
/-- a row being read: R rows stand, n numbers in all -/
def RW2 (t W M R n : Nat) (a b : mG) : Prop := R < M ∧ a.1 t 0 = cn M ∧ a.1 t 1 = cn W ∧ a.1 t 3 = cn (R + 1) ∧ b.1 88 14 = cn R ∧ ∀ k, k < n → a.1 (t + 1) k = b.1 94 k
theorem S_named {t W M R c i : Nat} {a b : mG} {x y lo hi cc pl : Int32} (hS : ST T len r m B) (ht : t = 60 ∧ W = 2 ∧ M = 6 ∨ t = 62 ∧ W = 4 ∧ M = 12) (h1 : CP T len m B i a) (h2 : RP T len r m B i b) (hx : ¬ x = ci (-1)) (hk : ∀ {kc kr : Int32}, KP r kc kr → (kr = y ↔ kc = x)) (hc : c < W) (hcc : cc = cn c) (hpl : pl = cn (W * R + c)) (hR : RW2 t W M R (W * R + c) a b) : rel (F_X7_readNamed t x lo hi cc a) (F_X12_told pl y lo hi b) (fun τ υ => τ.1 = υ.1 ∧ PB τ.1 ∧ (τ.1 = 0 → FE τ.2 υ.2) ∧ (¬ τ.1 = 0 → CP T len m B (i + 2) τ.2 ∧ RP T len r m B (i + 2) υ.2 ∧ RW2 t W M R (W * R + c + 1) τ.2 υ.2)) := by
  obtain ⟨l0, l1, l2, l3, l4, l5⟩ := hR
  have htt : 60 ≤ t ∧ t ≤ 62 ∧ W ≤ 4 ∧ M ≤ 12 ∧ M * W ≤ m_alen (t + 1) ∧ m_alen (t + 1) ≤ 48 := by
    rcases ht with ⟨e1, e2, e3⟩ | ⟨e1, e2, e3⟩ <;> subst e1 <;> subst e2 <;> subst e3
    · have e : m_alen (60 + 1) = 12 := by decide +kernel
      rw [e]; omega
    · have e : m_alen (62 + 1) = 48 := by decide +kernel
      rw [e]; omega
  have hRM : (R + 1) * W ≤ M * W := Nat.mul_le_mul_right W (by omega)
  have hWR : W * R = R * W := Nat.mul_comm W R
  have hRW1 : (R + 1) * W = R * W + W := by rw [Nat.add_mul, Nat.one_mul]
  unfold F_X7_readNamed F_X12_told F_X12_told_18 F_X12_number
  refine rel_b2 (S_pass0 hS h1 h2 hx hk) (fun v u v2 w q => ?_)
  obtain ⟨q1, q2, q3, q4⟩ := q
  have q1 : v = v2 := q1
  by_cases hv : v = 0
  · rw [if_pos hv, if_pos (q1 ▸ hv)]
    exact rel_some ⟨rfl, pb0, fun _ => q3 hv, fun e => absurd c0e0 e⟩
  · rw [if_neg hv, if_neg (fun e => hv (q1.trans e))]
    obtain ⟨g1, g2, g3, g4⟩ := q4 hv
    obtain ⟨hK, hpl2, hval, _⟩ := PR_facts hS g1 g2
    have no : ∀ y : Int32, rel (b2 (F_X7_refuse y u) fun v s => if v = 0 ∨ v = 1 then some (v, s) else none) (b2 (b2 (F_X12_bad y w) fun v s => if v = 0 ∨ v = 1 then some (v, s) else none) fun v7 s6 => if v7 = 0 then some ((ci 0), s6) else if pl < 0 ∨ 48 ≤ pl.toNatClampNeg then none else let s10 : mG := (mu s6.1 94 pl.toNatClampNeg (s6.1 88 25), s6.2); some ((ci 1), s10)) (fun τ υ => τ.1 = υ.1 ∧ PB τ.1 ∧ (τ.1 = 0 → FE τ.2 υ.2) ∧ (¬ τ.1 = 0 → CP T len m B (i + 2) τ.2 ∧ RP T len r m B (i + 2) υ.2 ∧ RW2 t W M R (W * R + c + 1) τ.2 υ.2)) := by
      intro y
      have ff := S_fail0 (w := y) hS g1 g2
      rw [V_refuse, V_bad] at ff ⊢
      rw [b2_some, if_pos pbo0, b2_some, if_pos pbo0, b2_some, if_pos c0e0]
      have f2 := ff _ rfl _ rfl
      exact rel_some ⟨rfl, pb0, fun _ => f2.2.2, fun e => absurd c0e0 e⟩
    by_cases hN : u.1 55 14 = c8 (-2)
    · have hr := (K_num1 hS.2.1 hK).mpr hN
      have hv2 := hval hN
      rw [if_pos hN, if_pos hr, V_within, b1_some, F_isIn, b1_some, ← hv2]
      by_cases hw : wi (u.1 55 15) lo hi = 0
      · rw [if_pos hw, if_pos hw]
        exact no (ci 2)
      · rw [if_neg hw, if_neg hw]
        have u1 : u.1 t 1 = cn W := by rw [g3.2.1 t (by omega)]; exact l2
        have u3 : u.1 t 3 = cn (R + 1) := by rw [g3.2.1 t (by omega)]; exact l3
        have e3 : u.1 t 3 - ci 1 = cn R := by
          rw [u3]; exact (cn_sub (a := R + 1) (b := 1) (by omega) (by omega)).trans (by rw [Nat.add_sub_cancel])
        have hi2 := S_lt hS g1 g2 (by rw [hN]; decide)
        rw [V_put (r := R) (c := c) (n := R + 1) (W := W) e3 hcc u1 u3 (by omega) hc (by omega) (by omega), b1_some]
        dsimp only
        have c1 : CP T len m B (i + 1) (mu u.1 (t + 1) (R * W + c) (u.1 55 15), u.2) := CP_rows g1 (mu_rowQ (by omega)) (mu_rowQ (by omega)) (mu_rowQ (by omega))
        have c2 : RP T len r m B (i + 1) (mu w.1 88 25 (u.1 55 15), w.2) := RP_same g2 (mu_rowQ (by omega)) (fun c hc => mu_cellQ (by omega))
        rw [b2_b1]
        refine rel_b1 (S_step0 hS c1 c2 hi2) (fun u2 w2 q => ?_)
        obtain ⟨f1, f2, f3, f4⟩ := q
        rw [b2_some, if_neg c1n0]
        refine rel_rg ?_
        have hp : pl.toNatClampNeg = W * R + c := by rw [hpl, cn_nat (by omega)]
        rw [hp]
        have w25 : w2.1 88 25 = u.1 55 15 := by
          rw [f4.2.2 25 (by omega) (by omega) (by omega) (by omega)]; exact mu_sameQ
        rw [w25]
        have ru : ∀ j, j ≠ 55 → j ≠ t + 1 → u2.1 j = a.1 j := fun j a1 a2 => (f3.2.1 j a1).trans ((mu_rowQ a2).trans (g3.2.1 j a1))
        refine rel_some ⟨rfl, pb1, fun e => absurd e c1n0, fun _ => ⟨f1, RP_same f2 (mu_rowQ (by omega)) (fun c _ => congrFun (mu_rowQ (by omega)) c), l0, ?_, ?_, ?_, ?_, fun k hk => ?_⟩⟩
        · rw [ru t (by omega) (by omega)]; exact l1
        · rw [ru t (by omega) (by omega)]; exact l2
        · rw [ru t (by omega) (by omega)]; exact l3
        · refine (congrFun (mu_rowQ (by omega)) 14).trans ?_
          rw [f4.2.2 14 (by omega) (by omega) (by omega) (by omega)]
          refine (mu_cellQ (by omega)).trans ?_
          rw [g4.2.2 14 (by omega) (by omega) (by omega) (by omega)]; exact l4
        · have e1 : u2.1 (t + 1) = mu u.1 (t + 1) (R * W + c) (u.1 55 15) (t + 1) := f3.2.1 (t + 1) (by omega)
          have e2 : w2.1 94 = b.1 94 := (f4.2.1 94 (by omega)).trans ((mu_rowQ (by omega)).trans (g4.2.1 94 (by omega)))
          show u2.1 (t + 1) k = mu w2.1 94 (W * R + c) (u.1 55 15) 94 k
          rw [e1]
          by_cases hkc : k = W * R + c
          · rw [hkc, mu_same, hWR, mu_same]
          · rw [mu_cell (by omega), mu_cell (by omega), e2, g3.2.1 (t + 1) (by omega)]
            exact l5 k (by omega)
    · rw [if_neg hN, if_neg (fun q => hN ((K_num1 hS.2.1 hK).mp q))]
      exact no (ci 1)
end ROWS
end
