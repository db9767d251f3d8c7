noncomputable section
/-! SUMS, here and there -/
def OPL : List (Nat × Nat) := [(23, 2), (24, 3), (25, 4), (27, 6), (28, 7), (29, 8), (30, 9), (31, 10), (32, 11)]
/-- a step of the class's code, and the reference's -/
def EN (x k v : Int32) : Prop := (k = cn 0 ∧ x = v ∧ 0 ≤ v.toInt ∧ v.toInt ≤ 9999) ∨ (∃ j, j < 9 ∧ k = cn (j + 1) ∧ x = cn (10000 + j)) ∨ (k = cn 26 ∧ x = ci 50000 + v ∧ 1 ≤ v.toInt ∧ v.toInt ≤ 9999) ∨ (∃ q, q ∈ OPL ∧ k = cn q.1 ∧ x = cn (q.2 * 10000))
def C58 (a : mG) : Prop := a.1 58 0 = cn 400 ∧ a.1 58 1 = cn 1
def CodeR (nc : Nat) (pend : List Nat) (a b : mG) : Prop := C58 a ∧ a.1 58 3 = cn nc ∧ b.1 88 13 = cn (nc + pend.length) ∧ (∀ j, j < nc → EN (a.1 59 j) (b.1 93 (2 * j)) (b.1 93 (2 * j + 1))) ∧ ∀ j, j < pend.length → b.1 93 (2 * (nc + j)) = cn (pend.getD j 0)
/-- what reading a sum leaves -/
def CG (a u : mG) : Prop := u.2 = a.2 ∧ (∀ j, j ≠ 55 → j ≠ 58 → j ≠ 59 → u.1 j = a.1 j) ∧ (∀ c, c ≠ 10 → c ≠ 11 → c ≠ 12 → c ≠ 14 → c ≠ 15 → c ≠ 16 → u.1 55 c = a.1 55 c) ∧ ∀ c, c ≠ 3 → u.1 58 c = a.1 58 c
def RG (b u : mG) : Prop := u.2 = b.2 ∧ (∀ j, j ≠ 88 → j ≠ 93 → u.1 j = b.1 j) ∧ ∀ c, c ≠ 13 → c ≠ 16 → c ≠ 17 → c ≠ 18 → c ≠ 19 → c ≠ 20 → c ≠ 21 → u.1 88 c = b.1 88 c
theorem CG_rfl {a : mG} : CG a a := ⟨rfl, fun _ _ _ _ => rfl, fun _ _ _ _ _ _ _ => rfl, fun _ _ => rfl⟩
theorem CG_tr {a u v : mG} (h : CG a u) (k : CG u v) : CG a v := ⟨k.1.trans h.1, fun j h1 h2 h3 => (k.2.1 j h1 h2 h3).trans (h.2.1 j h1 h2 h3), fun c h1 h2 h3 h4 h5 h6 => (k.2.2.1 c h1 h2 h3 h4 h5 h6).trans (h.2.2.1 c h1 h2 h3 h4 h5 h6), fun c hc => (k.2.2.2 c hc).trans (h.2.2.2 c hc)⟩
theorem RG_rfl {a : mG} : RG a a := ⟨rfl, fun _ _ _ => rfl, fun _ _ _ _ _ _ _ _ => rfl⟩
theorem RG_tr {a u v : mG} (h : RG a u) (k : RG u v) : RG a v := ⟨k.1.trans h.1, fun j h1 h2 => (k.2.1 j h1 h2).trans (h.2.1 j h1 h2), fun c h1 h2 h3 h4 h5 h6 h7 => (k.2.2 c h1 h2 h3 h4 h5 h6 h7).trans (h.2.2 c h1 h2 h3 h4 h5 h6 h7)⟩
theorem CG_step {a u : mG} (h : CFr a u) : CG a u := ⟨h.1, fun j h1 _ _ => h.2.1 j h1, fun c _ _ h3 h4 h5 h6 => h.2.2 c h3 h4 h5 h6, fun c _ => congrFun (h.2.1 58 (by decide)) c⟩
theorem RG_next {b u : mG} (h : NF b u) : RG b u := ⟨h.1, fun j h1 _ => h.2.1 j h1, fun c _ h2 h3 h4 h5 _ _ => h.2.2 c h2 h3 h4 h5⟩
theorem V_refuse {w : Int32} {a : mG} : F_X7_refuse w a = some (ci 0, (mu (mu a.1 55 10 w) 55 11 (a.1 55 16), a.2)) := by
  unfold F_X7_refuse
  dsimp only
  rw [mu_cell (by omega)]
theorem V_bad {w : Int32} {b : mG} : F_X12_bad w b = some (ci 0, (mu (mu b.1 88 20 w) 88 21 (b.1 88 18), b.2)) := by
  unfold F_X12_bad
  dsimp only
  rw [mu_cell (by omega)]
theorem CG_refuse {w x : Int32} {a : mG} : CG a (mu (mu a.1 55 10 w) 55 11 x, a.2) := ⟨rfl, fun j h1 _ _ => (mu_rowQ h1).trans (mu_row h1), fun c h1 h2 _ _ _ _ => (mu_cellQ (Or.inr h2)).trans (mu_cell (Or.inr h1)), fun c _ => congrFun ((mu_rowQ (by omega)).trans (mu_row (by omega))) c⟩
theorem RG_bad {w x : Int32} {b : mG} : RG b (mu (mu b.1 88 20 w) 88 21 x, b.2) := ⟨rfl, fun j h1 _ => (mu_rowQ h1).trans (mu_row h1), fun c _ _ _ _ _ h6 h7 => (mu_cellQ (Or.inr h7)).trans (mu_cell (Or.inr h6))⟩
theorem al_59 : m_alen (58 + 1) = 400 := by decide +kernel
theorem V_push {a : mG} {nc : Nat} {x : Int32} (h : C58 a) (h3 : a.1 58 3 = cn nc) (hn : nc < 400) : F_X10_push 58 x a = some (mu (mu a.1 58 3 (cn (nc + 1))) 59 nc x, a.2) := by
  unfold F_X10_push
  rw [h.1, h3, if_neg (fun q => absurd ((cn_le (by omega) (by omega)).mp q) (by omega)), cnu (by omega)]
  dsimp only
  have e3 : mu a.1 58 3 (cn (nc + 1)) 58 3 - ci 1 = cn nc := by
    rw [mu_same]; exact (cn_sub (a := nc + 1) (b := 1) (by omega) (by omega)).trans (by rw [Nat.add_sub_cancel])
  rw [e3, V_put (a2 := ci 0) (r := nc) (c := 0) (n := nc + 1) (W := 1) rfl rfl ((mu_cellQ (by omega)).trans h.2) mu_sameQ (by omega) (by omega) (by rw [al_59]; omega) (by omega), b1_some, Nat.mul_one]
  rfl
theorem V_lay {b : mG} {n : Nat} {k v : Int32} (h : b.1 88 13 = cn n) (hn : n ≤ 400) : pk (F_X12_lay k v b) (fun u => u = (mu (mu (mu b.1 93 (2 * n) k) 93 (2 * n + 1) v) 88 13 (cn (n + 1)), b.2)) := by
  unfold F_X12_lay
  refine pk_nn ?_
  have e2 : (ci 2) * cn n = cn (2 * n) := cn_mul (a := 2) (by omega) (by omega) (by omega)
  rw [h, e2, cn_nat (by omega)]
  dsimp only
  refine pk_nn ?_
  have e13 : mu b.1 93 (2 * n) k 88 13 = cn n := (mu_cell (by omega)).trans h
  rw [e13, e2, cnu (by omega), cn_nat (by omega)]
  have e13b : mu (mu b.1 93 (2 * n) k) 93 (2 * n + 1) v 88 13 = cn n := (mu_cell (by omega)).trans e13
  rw [e13b, cnu (by omega)]
  exact pk_some rfl
/-- a step is laid by both -/
theorem CodeR_add {nc : Nat} {a b u w : mG} {x k v : Int32} (h : CodeR nc [] a b) (he : EN x k v) (hu : u.1 = mu (mu a.1 58 3 (cn (nc + 1))) 59 nc x) (hw : w.1 = mu (mu (mu b.1 93 (2 * nc) k) 93 (2 * nc + 1) v) 88 13 (cn (nc + 1))) : CodeR (nc + 1) [] u w := by
  obtain ⟨⟨h0, h1⟩, h3, h13, hE, _⟩ := h
  refine ⟨⟨?_, ?_⟩, ?_, ?_, fun j hj => ?_, fun j hj => absurd hj (by simp)⟩
  · rw [hu, mu_row (by omega), mu_cell (by omega)]; exact h0
  · rw [hu, mu_row (by omega), mu_cell (by omega)]; exact h1
  · rw [hu, mu_row (by omega), mu_same]
  · rw [hw, mu_same]; rfl
  · rw [hu, hw, mu_row (by omega : (93 : Nat) ≠ 88)]
    by_cases hjn : j = nc
    · subst hjn
      rw [mu_same, mu_cell (by omega), mu_same, mu_same]; exact he
    · rw [mu_cell (by omega), mu_row (by omega), mu_cell (by omega), mu_cell (by omega), mu_cell (by omega), mu_cell (by omega)]
      exact hE j (by omega)
section SUMS
variable {T : Nat → Int32} {len r m : Nat} {B : Nat → Nat}
/-- both stand before token i, with nc steps of code, and k tokens more that will still give a step -/
def SX (T : Nat → Int32) (len r m : Nat) (B : Nat → Nat) (i nc k : Nat) (pend : List Nat) (a b : mG) : Prop := CP T len m B i a ∧ RP T len r m B i b ∧ CodeR nc pend a b ∧ nc + k ≤ i
/-- both refuse alike -/
def FE (a b : mG) : Prop := a.1 55 10 = b.1 88 20 ∧ a.1 55 11 = b.1 88 21
/-- what reading a piece comes to -/
def PRO (T : Nat → Int32) (len r m : Nat) (B : Nat → Nat) (i k : Nat) (a b : mG) (τ υ : Int32 × mG) : Prop := τ.1 = υ.1 ∧ CG a τ.2 ∧ RG b υ.2 ∧ (τ.1 = 0 → FE τ.2 υ.2) ∧ (¬ τ.1 = 0 → ∃ i' nc', i < i' ∧ SX T len r m B i' nc' k [] τ.2 υ.2)
theorem CP_code {i nc : Nat} {x y : Int32} {a : mG} (h : CP T len m B i a) : CP T len m B i (mu (mu a.1 58 3 y) 59 nc x, a.2) := by
  have e : ∀ j, j ≠ 58 → j ≠ 59 → mu (mu a.1 58 3 y) 59 nc x j = a.1 j := fun j h1 h2 => (mu_row h2).trans (mu_row h1)
  obtain ⟨h1, h2, h3, h4, h5, h6⟩ := h
  have e55 : (mu (mu a.1 58 3 y) 59 nc x, a.2).1 55 = a.1 55 := e 55 (by omega) (by omega)
  have e66 : (mu (mu a.1 58 3 y) 59 nc x, a.2).1 66 = a.1 66 := e 66 (by omega) (by omega)
  refine ⟨TKA_row h1 (e 65 (by omega) (by omega)) e66, h2, ?_, ?_, ?_, ?_⟩
  · rw [e55]; exact h3
  · rw [e55, e66]; exact h4
  · rw [e55, e66]; exact h5
  · rw [e55, e66]; exact h6
theorem CG_code {nc : Nat} {x y : Int32} {a : mG} : CG a (mu (mu a.1 58 3 y) 59 nc x, a.2) := ⟨rfl, fun j _ h2 h3 => (mu_rowQ h3).trans (mu_row h2), fun c _ _ _ _ _ _ => congrFun ((mu_rowQ (by omega)).trans (mu_row (by omega))) c, fun c hc => (congrFun (mu_rowQ (by omega)) c).trans (mu_cell (Or.inr hc))⟩
theorem RP_same {i : Nat} {b u : mG} (h : RP T len r m B i b) (e95 : u.1 95 = b.1 95) (e : ∀ c, c = 11 ∨ c = 15 ∨ c = 16 ∨ c = 17 ∨ c = 18 ∨ c = 19 ∨ c = 22 ∨ c = 24 → u.1 88 c = b.1 88 c) : RP T len r m B i u := by
  unfold RP
  rw [e95, e 11 (by omega), e 15 (by omega), e 16 (by omega), e 17 (by omega), e 18 (by omega), e 19 (by omega), e 22 (by omega), e 24 (by omega)]
  exact h
theorem RP_lay {i n : Nat} {x y z : Int32} {b : mG} (h : RP T len r m B i b) : RP T len r m B i (mu (mu (mu b.1 93 (2 * n) x) 93 (2 * n + 1) y) 88 13 z, b.2) :=
  RP_same h ((mu_rowQ (by omega)).trans ((mu_row (by omega)).trans (mu_row (by omega)))) (fun c hc => (mu_cellQ (by omega)).trans ((mu_cell (by omega)).trans (mu_cell (by omega))))
theorem RG_lay {n : Nat} {x y z : Int32} {b : mG} : RG b (mu (mu (mu b.1 93 (2 * n) x) 93 (2 * n + 1) y) 88 13 z, b.2) := ⟨rfl, fun j h1 h2 => (mu_rowQ h1).trans ((mu_row h2).trans (mu_row h2)), fun c h1 _ _ _ _ _ _ => (mu_cellQ (Or.inr h1)).trans ((mu_cell (by omega)).trans (mu_cell (by omega)))⟩
theorem CodeR_step {nc : Nat} {p : List Nat} {a b u w : mG} (h : CodeR nc p a b) (h1 : CFr a u) (h2 : NF b w) : CodeR nc p u w := by
  unfold CodeR C58
  rw [h1.2.1 58 (by decide), h1.2.1 59 (by decide), h2.2.1 93 (by decide), h2.2.2 13 (by decide) (by decide) (by decide) (by decide)]
  exact h
theorem nv_b {a : Nat} : ∀ k, k ≤ 4 → (∀ j, j < k → ¬ dgv (T (a + j)) = 0) → 0 ≤ (nv T a k).toInt ∧ (nv T a k).toInt < 10 ^ k := by
  intro k
  induction k with
  | zero => intro _ _; exact ⟨by show 0 ≤ (ci 0).toInt; decide, by show (ci 0).toInt < _; decide⟩
  | succ k ih =>
    intro hk hd
    have h := ih (by omega) (fun j hj => hd j (by omega))
    have d := dgv_f (hd k (by omega))
    have hp : (10 : Int) ^ k ≤ 1000 := by
      have : k = 0 ∨ k = 1 ∨ k = 2 ∨ k = 3 := by omega
      rcases this with e | e | e | e <;> subst e <;> decide
    have e1 : (nv T a k * c8 10).toInt = (nv T a k).toInt * 10 := r_mul rfl (by decide : (c8 10).toInt = 10) (by omega) (by omega)
    have e2 : (nv T a k * c8 10 + T (a + k)).toInt = (nv T a k).toInt * 10 + (T (a + k)).toInt := r_add e1 rfl (by omega) (by omega)
    have e3 : (nv T a (k + 1)).toInt = (nv T a k).toInt * 10 + (T (a + k)).toInt - 48 := r_sub e2 (by decide : (c8 48).toInt = 48) (by omega) (by omega)
    rw [e3, Int.pow_succ]
    omega
/-- a number's value is below 10000 -/
theorem RP_num {i : Nat} {b : mG} (hS : ST T len r m B) (h : RP T len r m B i b) (hk : b.1 88 17 = ci 2) : 0 ≤ (b.1 88 19).toInt ∧ (b.1 88 19).toInt ≤ 9999 := by
  obtain ⟨_, _, _, _, h⟩ := h
  rcases h with ⟨_, _, e, _⟩ | ⟨hi, _, a, ht, ha, _, hkr, hn⟩
  · rw [hk] at e; exact absurd e (by decide)
  · rcases hkr with ⟨e, _⟩ | ⟨_, hkr⟩
    · omega
    · rcases hkr with ⟨_, hkr⟩ | ⟨l, d, ⟨q, _⟩ | ⟨_, e⟩⟩ | ⟨_, _, e⟩
      · rcases hkr with ⟨w, hw, e⟩ | ⟨_, e⟩
        · rw [hk] at e
          have h26 := hw.1
          have hr := hS.2.1
          have f : ∀ r, r < 3 → ∀ w, w < 26 → ci 2 ≠ cn (mw r w) := by decide +kernel
          exact absurd e (f r hr w h26)
        · rw [hk] at e; exact absurd e (by decide)
      · rw [hn l d q]
        rcases ht.2 with ⟨e, _⟩ | ⟨_, ⟨e, _⟩ | ⟨_, _, hrun⟩ | ⟨_, e, _⟩⟩
        · omega
        · exact absurd l e
        · have h := nv_b (T := T) (a := a) (B (i + 1) - a) q (fun j hj => hrun.2.2.1 _ (by omega) (by omega))
          have hp : (10 : Int) ^ (B (i + 1) - a) ≤ 10000 := by
            have : B (i + 1) - a = 0 ∨ B (i + 1) - a = 1 ∨ B (i + 1) - a = 2 ∨ B (i + 1) - a = 3 ∨ B (i + 1) - a = 4 := by omega
            rcases this with e | e | e | e | e <;> rw [e] <;> decide
          omega
        · exact absurd e d
      · rw [hk] at e; exact absurd e (by decide)
      · rw [hk] at e
        have hB := hS.2.2.2 a ha
        have h2 := sg_t hB.1 hB.2
        rw [← e] at h2
        have f : ∀ n : Nat, n < 256 → (2 : Int) ≠ mkI 0 (n : Int) := by decide +kernel
        have f2 := f (T a).toInt.toNat (by omega)
        rw [show (((T a).toInt.toNat : Nat) : Int) = (T a).toInt by omega] at f2
        exact absurd h2 f2
/-- both step on -/
theorem S_step {i nc k' : Nat} {p : List Nat} {a b : mG} (hS : ST T len r m B) (h1 : CP T len m B i a) (h2 : RP T len r m B i b) (h3 : CodeR nc p a b) (hi : i < m) (hk : nc + k' ≤ i + 1) : rel (F_X7_stepOn a) (F_X12_next0 b) (fun u w => SX T len r m B (i + 1) nc k' p u w ∧ CFr a u ∧ NF b w) := by
  intro u hu w hw
  obtain ⟨g1, g2⟩ := V_stepOn h1 hi u hu
  obtain ⟨g3, g4⟩ := V_next hS h1.1 h2 hi w hw
  exact ⟨⟨g1, g3, CodeR_step h3 g2 g4, hk⟩, g2, g4⟩
theorem S_lt {i : Nat} {a b : mG} (hS : ST T len r m B) (h1 : CP T len m B i a) (h2 : RP T len r m B i b) (hk : ¬ a.1 55 14 = ci (-1)) : i < m := by
  have g1 := (PR_facts hS h1 h2).2.2.2
  have g2 := h1.2.1
  have g3 : i ≠ m := fun e => hk (g1.mpr e)
  omega
/-- both refuse -/
theorem S_fail {i : Nat} {a b a0 b0 : mG} {w : Int32} (hS : ST T len r m B) (h1 : CP T len m B i a) (h2 : RP T len r m B i b) (c : CG a0 a) (d : RG b0 b) (i0 k0 : Nat) : rel (F_X7_refuse w a) (F_X12_bad w b) (PRO T len r m B i0 k0 a0 b0) := by
  rw [V_refuse, V_bad]
  have g := (PR_facts hS h1 h2).2.1
  refine rel_some ⟨rfl, CG_tr c CG_refuse, RG_tr d RG_bad, fun _ => ⟨?_, ?_⟩, fun q => absurd (by decide : ci 0 = 0) q⟩
  · exact ((mu_cellQ (by omega)).trans mu_same).trans ((mu_cellQ (by omega)).trans mu_same).symm
  · exact mu_sameQ.trans (g.trans mu_sameQ.symm)
theorem rel_fl {x : Option (Int32 × mG)} {y : Option (Int32 × mG)} {R : Int32 × mG → Int32 × mG → Prop} (h : rel x y R) : rel (b2 x fun v s => if v = 0 ∨ v = 1 then some (v, s) else none) (b2 y fun v s => if v = 0 ∨ v = 1 then some (v, s) else none) R := rel_b2 h fun _ _ _ _ q => rel_lp (rel_rp (rel_some q))
/-- both lay a step -/
theorem S_emit {i j nc : Nat} {a b : mG} {x s v : Int32} (h1 : CP T len m B i a) (h2 : RP T len r m B j b) (h3 : CodeR nc [] a b) (he : EN x s v) (hn : nc < 400) : rel (F_X10_push 58 x a) (F_X12_lay s v b) (fun u w => CP T len m B i u ∧ RP T len r m B j w ∧ CodeR (nc + 1) [] u w ∧ CG a u ∧ RG b w) := by
  rw [V_push h3.1 h3.2.1 hn]
  have h13 : b.1 88 13 = cn nc := h3.2.2.1
  intro u hu w hw
  have hw := V_lay h13 (by omega) w hw
  have hu := Option.some.inj hu
  subst hu; subst hw
  exact ⟨CP_code h1, RP_lay h2, CodeR_add h3 he rfl rfl, CG_code, RG_lay⟩
theorem CFr_rfl {a : mG} : CFr a a := ⟨rfl, fun _ _ => rfl, fun _ _ _ _ _ => rfl⟩
theorem NF_rfl {b : mG} : NF b b := ⟨rfl, fun _ _ => rfl, fun _ _ _ _ _ => rfl⟩
end SUMS
end
