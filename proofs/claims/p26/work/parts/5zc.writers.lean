noncomputable section
/-! WHAT IS TOLD, on both sides -/
theorem HSr1_row {D E : Nat → Nat → Int32} {w w' : Nat → Int32} (H : HSr 1 D w) (r : ∀ j, 1 ≤ j → j ≤ 17 → E j = D j) (e : ∀ k, k < 1894 → w' k = w k) : HSr 1 E w' := by
  obtain ⟨t1, t2, t3, t4, t5, t6, t7, t8, c1, c2, c3, c4⟩ := H
  refine ⟨TWr_same t1 (r _ (by decide) (by decide)) (r _ (by decide) (by decide)) (e _ (by decide)) (fun a b ha hb => e _ (by have := ixG_rng ha hb; omega)), TWr_same t2 (r _ (by decide) (by decide)) (r _ (by decide) (by decide)) (e _ (by decide)) (fun a b ha hb => e _ (by unfold ixB; omega)), LWr_same t3 (r _ (by decide) (by decide)) (r _ (by decide) (by decide)) (fun k hk => e k (by omega)), CWr_same t4 (r _ (by decide) (by decide)) (r _ (by decide) (by decide)) (fun k h1 h2 => e k (by omega)), TWr_same t5 (r _ (by decide) (by decide)) (r _ (by decide) (by decide)) (e _ (by decide)) (fun a b ha hb => e _ (by unfold ixS; omega)), TWr_same t6 (r _ (by decide) (by decide)) (r _ (by decide) (by decide)) (e _ (by decide)) (fun a b ha hb => e _ (by unfold ixH; omega)), TWr_same t7 (r _ (by decide) (by decide)) (r _ (by decide) (by decide)) (e _ (by decide)) (fun a b ha hb => e _ (by unfold ixR; omega)), TWr_same t8 (r _ (by decide) (by decide)) (r _ (by decide) (by decide)) (e _ (by decide)) (fun a b ha hb => e _ (by unfold ixC; omega)), ?_, ?_, ?_, ?_⟩
  · rw [r 1 (by decide) (by decide), e 113 (by decide)]; exact c1
  · rw [r 1 (by decide) (by decide), e 114 (by decide)]; exact c2
  · rw [r 1 (by decide) (by decide), e 0 (by decide)]; exact c3
  · rw [r 1 (by decide) (by decide), e 1 (by decide)]; exact c4
theorem SIM_forget {a b u t : mG} (h : SIM a b) {n nb nc : Nat} (hn : n ≤ 12) (hnb : nb ≤ 150) (e2 : u.1 2 3 = cn n) (e4 : u.1 4 3 = cn nb) (e8 : u.1 8 3 = cn nc) (H : HSr 1 u.1 (t.1 89)) (L : LTy nc (t.1 89)) (V : VIm n (t.1 89)) (f1 : u.1 35 1 = ci 0) (f2 : u.1 35 2 = a.1 35 2) (em : ∀ j, 36 ≤ j → j ≤ 54 → u.1 j = a.1 j) (f3 : t.1 88 3 = ci 0) (i0 : u.1 0 2 = a.1 0 2) (ir : ∀ j, 18 ≤ j → j ≤ 34 → u.1 j = a.1 j) (i4 : t.1 88 4 = b.1 88 4) (i90 : t.1 90 = b.1 90) : SIM u t :=
  ⟨⟨n, nb, nc, hn, hnb, e2, e4, e8, H, L, V⟩, PSr_forget h.2.1 f1 f2 f3 hn e2 hnb e4 em, IMG_same h.2.2 i0 ir i4 i90⟩
/-- one number or one cell is told, and the past forgotten -/
theorem SIM_told {a b : mG} {D E : Nat → Nat → Int32} {za zb : Nat → Nat → Int64} (h : SIM a b) (H : HSr 1 D (E 89)) (rD : ∀ j, j ≠ 1 → j ≠ 3 → D j = a.1 j) (rE : ∀ j, j ≠ 89 → E j = b.1 j) (L : ∀ k, (k = 117 ∨ 985 ≤ k) → E 89 k = b.1 89 k) (V : ∀ n, n ≤ 12 → VIm n (b.1 89) → VIm n (E 89)) : SIM (mu D 35 1 (ci 0), za) (mu E 88 3 (ci 0), zb) := by
  obtain ⟨⟨n, nb, nc, hn, hnb, e2, e4, e8, H0, L0, V0⟩, _⟩ := id h
  have r : ∀ j, j ≠ 1 → j ≠ 3 → j ≠ 35 → mu D 35 1 (ci 0) j = a.1 j := fun j h1 h2 h3 => (mu_row h3).trans (rD j h1 h2)
  have e89 : mu E 88 3 (ci 0) 89 = E 89 := mu_row (by decide)
  have q2 : mu D 35 1 (ci 0) 35 2 = a.1 35 2 := (mu_cell (by decide)).trans (congrFun (rD 35 (by decide) (by decide)) 2)
  have q4 : mu E 88 3 (ci 0) 88 4 = b.1 88 4 := (mu_cell (by decide)).trans (congrFun (rE 88 (by decide)) 4)
  have q90 : mu E 88 3 (ci 0) 90 = b.1 90 := (mu_row (by decide)).trans (rE 90 (by decide))
  have q1 : mu D 35 1 (ci 0) 35 1 = ci 0 := mu_same
  have q3 : mu E 88 3 (ci 0) 88 3 = ci 0 := mu_same
  refine SIM_forget h (u := (mu D 35 1 (ci 0), za)) (t := (mu E 88 3 (ci 0), zb)) (nc := nc) hn hnb ?_ ?_ ?_ (HSr1_row H (fun j _ h2 => mu_row (by omega)) (fun k _ => congrFun e89 k)) ?_ ?_ q1 q2 (fun j h1 _ => r j (by omega) (by omega) (by omega)) q3 (congrFun (r 0 (by decide) (by decide) (by decide)) 2) (fun j h1 h2 => r j (by omega) (by omega) (by omega)) q4 q90
  · exact (congrFun (r 2 (by decide) (by decide) (by decide)) 3).trans e2
  · exact (congrFun (r 4 (by decide) (by decide) (by decide)) 3).trans e4
  · exact (congrFun (r 8 (by decide) (by decide) (by decide)) 3).trans e8
  · exact LTy_same L0 (fun k hk => (congrFun e89 k).trans (L k hk))
  · show VIm n (mu E 88 3 (ci 0) 89)
    rw [e89]; exact V n hn V0
theorem VIm_put {E : Nat → Nat → Int32} {n k : Nat} {v : Int32} (hn : n ≤ 12) (h : VIm n (E 89)) (hk : k ≠ 0 ∧ (k < 3 ∨ 39 ≤ k)) : VIm n (mu E 89 k v 89) :=
  ⟨by rw [show mu E 89 k v 89 0 = E 89 0 from mu_cell (Or.inr (by omega))]; exact h.1, by rw [show mu E 89 k v 89 0 = E 89 0 from mu_cell (Or.inr (by omega))]; exact h.2.1, fun i hi => VIg_put (g := i) (h.2.2 i hi) (by omega)⟩
theorem R_state {a b : mG} {x : Int32} (h : SIM a b) : rel (F_X11_state x a) (F_X12_state x b) (fun τ υ => τ.1 = υ.1 ∧ SIM τ.2 υ.2) := by
  obtain ⟨⟨n, nb, nc, hn, hnb, e2, e4, e8, H, L, V⟩, _⟩ := id h
  unfold F_X11_state F_X12_state F_X5_forget F_X12_forgets
  dsimp only
  rw [b1_some, b1_some]
  refine rel_some ⟨H.2.2.2.2.2.2.2.2.2.2.2, SIM_told h (HSr_num H (Or.inr (Or.inr (Or.inr ⟨rfl, rfl⟩)))) (fun j h1 _ => mu_row h1) (fun j h1 => mu_row h1) (fun k hk => mu_cell (Or.inr (by omega))) (fun m hm q => VIm_put hm q (by omega))⟩
theorem R_set {a b : mG} {x y z : Int32} (h : SIM a b) : rel (F_X11_set x y z a) (F_X12_set x y z b) (fun τ υ => τ.1 = υ.1 ∧ SIM τ.2 υ.2) := by
  obtain ⟨⟨n, nb, nc, hn, hnb, e2, e4, e8, H, L, V⟩, _⟩ := id h
  have h112 := SIM_n H e2
  have wb : ∀ p q r : Int32, wi p q r = 0 ∨ wi p q r = 1 := fun p q r => wi_b p q r
  unfold F_X11_set F_X12_set F_X11_canSet F_X11_canSet_69 F_X12_set_92
  by_cases h0 : x = ci 0
  · rw [if_pos h0, if_pos h0, V_within, F_isIn, b1_some, b1_some, if_pos (wb _ _ _), b1_some]
    by_cases hw : wi z (ci 0) (c8 20) = 0
    · rw [if_pos hw, if_pos hw]; exact rel_some ⟨rfl, h⟩
    · rw [if_neg hw, if_neg hw, if_pos (h0.trans c0e0)]
      unfold F_X11_set_56 F_X12_set_110 F_X5_forget F_X12_forgets
      dsimp only
      rw [b1_some, b1_some]
      exact rel_some ⟨rfl, SIM_told h (HSr_num H (Or.inl ⟨rfl, rfl⟩)) (fun j h1 _ => mu_row h1) (fun j h1 => mu_row h1) (fun k hk => mu_cell (Or.inr (by omega))) (fun m hm q => VIm_put hm q (by omega))⟩
  rw [if_neg h0, if_neg h0]
  by_cases h1 : x = ci 1
  · rw [if_pos h1, if_pos h1, if_pos h1, V_within, F_isIn, b1_some, b1_some, if_pos (wb _ _ _), b1_some]
    by_cases hw : wi z (ci 0) (c8 9) = 0
    · rw [if_pos hw, if_pos hw]; exact rel_some ⟨rfl, h⟩
    · rw [if_neg hw, if_neg hw, if_neg (fun e => h0 (e.trans c0e0.symm))]
      unfold F_X11_set_56 F_X12_set_110 F_X5_forget F_X12_forgets
      dsimp only
      rw [b1_some, b1_some]
      exact rel_some ⟨rfl, SIM_told h (HSr_num H (Or.inr (Or.inl ⟨rfl, rfl⟩))) (fun j h1 _ => mu_row h1) (fun j h1 => mu_row h1) (fun k hk => mu_cell (Or.inr (by omega))) (fun m hm q => VIm_put hm q (by omega))⟩
  rw [if_neg h1, if_neg h1, if_neg h1]
  by_cases h2 : x = ci 2
  · rw [if_pos h2, if_pos h2, V_isGuest, V_isGuestR h112 hn, b1_some, b1_some, show a.1 (1 + 1) 3 = cn n from e2]
    by_cases hx : ig y (cn n) = 0
    · rw [if_pos hx, if_pos hx, b1_some, if_pos c0e0]; exact rel_some ⟨rfl, h⟩
    rw [if_neg hx, if_neg hx, V_within, F_isIn, b1_some, b1_some]
    by_cases hw : wi z (ci 0) (c8 99) = 0
    · rw [if_pos hw, if_pos hw, b1_some, if_pos c0e0]; exact rel_some ⟨rfl, h⟩
    rw [if_neg hw, if_neg hw, b1_some, if_neg c1n0, if_neg (fun e => h0 (e.trans c0e0.symm))]
    obtain ⟨g, hg, ey⟩ := ig_cn (by omega) hx
    subst ey
    rw [V_putG (c := 1) (k := ci 1) H.1.2.1 e2 hn hg (by decide) rfl, b1_some, show c16 131 + cn g = cn (131 + g) from cn_add (a := 131) (by omega), cn_nat (n := 131 + g) (by omega)]
    refine rel_rg ?_
    unfold F_X11_set_56 F_X12_set_110 F_X5_forget F_X12_forgets
    dsimp only
    rw [b1_some, b1_some]
    exact rel_some ⟨rfl, SIM_told h (HSr_put H e2 hg hn (by decide) rfl) (fun j _ h2 => mu_row h2) (fun j h1 => mu_row h1) (fun k hk => mu_cell (Or.inr (by omega))) (fun m hm q => VIm_put hm q (by omega))⟩
  · rw [if_neg h2, if_neg h2, b1_some, if_pos c0e0]
    exact rel_some ⟨rfl, h⟩
/-! rows of numbers -/
def BL (D : Nat → Nat → Int32) (t p : Nat) : List Int32 → (Nat → Nat → Int32)
  | [] => D
  | x :: r => BL (mu D t p x) t (p + 1) r
theorem BL_row {t j : Nat} (h : j ≠ t) : ∀ (l : List Int32) (D : Nat → Nat → Int32) (p : Nat), BL D t p l j = D j := by
  intro l
  induction l with
  | nil => intro D p; rfl
  | cons x r ih => intro D p; exact (ih (mu D t p x) (p + 1)).trans (mu_row h)
theorem BL_out {t k : Nat} : ∀ (l : List Int32) (D : Nat → Nat → Int32) (p : Nat), (k < p ∨ p + l.length ≤ k) → BL D t p l t k = D t k := by
  intro l
  induction l with
  | nil => intro D p _; rfl
  | cons x r ih =>
    intro D p h
    have h2 : k < p ∨ p + (r.length + 1) ≤ k := h
    exact (ih (mu D t p x) (p + 1) (by omega)).trans (mu_cell (Or.inr (by omega)))
theorem BL_in {t c : Nat} : ∀ (l : List Int32) (D : Nat → Nat → Int32) (p : Nat), c < l.length → BL D t p l t (p + c) = l.getD c 0 := by
  intro l
  induction l generalizing c with
  | nil => intro D p h; exact absurd h (by simp)
  | cons x r ih =>
    intro D p h
    cases c with
    | zero => exact (BL_out r (mu D t p x) (p + 1) (by omega)).trans mu_same
    | succ c =>
      have h2 : c + 1 < r.length + 1 := h
      have q := ih (c := c) (mu D t p x) (p + 1) (by omega)
      rw [show p + (c + 1) = p + 1 + c by omega]
      exact q
/-- rooms and callers told anew -/
theorem SIM_rc {a b : mG} {D E : Nat → Nat → Int32} {za zb : Nat → Nat → Int64} (h : SIM a b) (H : HSr 1 D (E 89)) (rD : ∀ j, j ≠ 14 → j ≠ 15 → j ≠ 16 → j ≠ 17 → D j = a.1 j) (rE : ∀ j, j ≠ 89 → E j = b.1 j) (L : ∀ k, (k < 112 ∨ k = 117 ∨ (985 ≤ k ∧ k < 1049) ∨ (1050 ≤ k ∧ k < 1850)) → E 89 k = b.1 89 k) : SIM (D, za) (E, zb) := by
  obtain ⟨⟨n, nb, nc, hn, hnb, e2, e4, e8, H0, L0, V0⟩, P, I⟩ := id h
  have r : ∀ j, j ≠ 14 → j ≠ 15 → j ≠ 16 → j ≠ 17 → D j = a.1 j := rD
  refine ⟨⟨n, nb, nc, hn, hnb, ?_, ?_, ?_, H, ?_, ?_⟩, ?_, IMG_same I (congrFun (r 0 (by decide) (by decide) (by decide) (by decide)) 2) (fun j h1 h2 => r j (by omega) (by omega) (by omega) (by omega)) (congrFun (rE 88 (by decide)) 4) (rE 90 (by decide))⟩
  · show D 2 3 = _
    rw [r 2 (by decide) (by decide) (by decide) (by decide)]; exact e2
  · show D 4 3 = _
    rw [r 4 (by decide) (by decide) (by decide) (by decide)]; exact e4
  · show D 8 3 = _
    rw [r 8 (by decide) (by decide) (by decide) (by decide)]; exact e8
  · obtain ⟨h1, m, hm, h2, h3⟩ := L0
    refine ⟨h1, m, hm, (L 117 (by omega)).trans h2, fun q hq => ?_⟩
    obtain ⟨p, q', c, hpq, hqc, hc, z1, z2, z3, z4, z5⟩ := h3 q hq
    refine ⟨p, q', c, hpq, hqc, hc, (L _ (by omega)).trans z1, (L _ (by omega)).trans z2, (L _ (by omega)).trans z3, ?_, ?_⟩
    · exact Rt_congr _ _ _ _ (fun j _ hj => L _ (by omega)) z4
    · rcases z5 with e | e
      · exact Or.inl e
      · exact Or.inr (Rt_congr _ _ _ _ (fun j _ hj => L _ (by omega)) e)
  · exact VIm_congr hn (fun k hk => L k (Or.inl hk)) V0
  · exact PSr_go P (r 35 (by decide) (by decide) (by decide) (by decide)) (congrFun (rE 88 (by decide)) 3) (rE 91 (by decide)) (r 2 (by decide) (by decide) (by decide) (by decide)) e2 hn e4 (Nat.le_refl _) hnb (by rw [show ((D, za) : mG).1 4 = D 4 from rfl, r 4 (by decide) (by decide) (by decide) (by decide)]; exact e4) (fun j h1 h2 => r j (by omega) (by omega) (by omega) (by omega)) (fun r' c _ _ => congrFun (r 3 (by decide) (by decide) (by decide) (by decide)) _)
/-- a table of the house but one stands -/
theorem HSr_7 {D D' : Nat → Nat → Int32} {w w' : Nat → Int32} (H : HSr 1 D w) (h7 : TWr 14 4 8 118 ixR D' w') (rD : ∀ j, j ≠ 14 → j ≠ 15 → D' j = D j) (e : ∀ k, k ≠ 118 → (k < 203 ∨ 235 ≤ k) → w' k = w k) : HSr 1 D' w' := by
  obtain ⟨t1, t2, t3, t4, t5, t6, t7, t8, c1, c2, c3, c4⟩ := H
  refine ⟨TWr_same t1 (rD _ (by decide) (by decide)) (rD _ (by decide) (by decide)) (e _ (by decide) (by decide)) (fun a b ha hb => e _ (by have := ixG_rng ha hb; omega) (by have := ixG_rng ha hb; omega)), TWr_same t2 (rD _ (by decide) (by decide)) (rD _ (by decide) (by decide)) (e _ (by decide) (by decide)) (fun a b ha hb => e _ (by unfold ixB; omega) (by unfold ixB; omega)), LWr_same t3 (rD _ (by decide) (by decide)) (rD _ (by decide) (by decide)) (fun k hk => e k (by omega) (by omega)), CWr_same t4 (rD _ (by decide) (by decide)) (rD _ (by decide) (by decide)) (fun k h1 h2 => e k (by omega) (by omega)), TWr_same t5 (rD _ (by decide) (by decide)) (rD _ (by decide) (by decide)) (e _ (by decide) (by decide)) (fun a b ha hb => e _ (by unfold ixS; omega) (by unfold ixS; omega)), TWr_same t6 (rD _ (by decide) (by decide)) (rD _ (by decide) (by decide)) (e _ (by decide) (by decide)) (fun a b ha hb => e _ (by unfold ixH; omega) (by unfold ixH; omega)), h7, TWr_same t8 (rD _ (by decide) (by decide)) (rD _ (by decide) (by decide)) (e _ (by decide) (by decide)) (fun a b ha hb => e _ (by unfold ixC; omega) (by unfold ixC; omega)), ?_, ?_, ?_, ?_⟩
  · rw [rD 1 (by decide) (by decide), e 113 (by decide) (by decide)]; exact c1
  · rw [rD 1 (by decide) (by decide), e 114 (by decide) (by decide)]; exact c2
  · rw [rD 1 (by decide) (by decide), e 0 (by decide) (by decide)]; exact c3
  · rw [rD 1 (by decide) (by decide), e 1 (by decide) (by decide)]; exact c4
theorem HSr_8 {D D' : Nat → Nat → Int32} {w w' : Nat → Int32} (H : HSr 1 D w) (h8 : TWr 16 3 8 1049 ixC D' w') (rD : ∀ j, j ≠ 16 → j ≠ 17 → D' j = D j) (e : ∀ k, k ≠ 1049 → k < 1870 → w' k = w k) : HSr 1 D' w' := by
  obtain ⟨t1, t2, t3, t4, t5, t6, t7, t8, c1, c2, c3, c4⟩ := H
  refine ⟨TWr_same t1 (rD _ (by decide) (by decide)) (rD _ (by decide) (by decide)) (e _ (by decide) (by decide)) (fun a b ha hb => e _ (by have := ixG_rng ha hb; omega) (by have := ixG_rng ha hb; omega)), TWr_same t2 (rD _ (by decide) (by decide)) (rD _ (by decide) (by decide)) (e _ (by decide) (by decide)) (fun a b ha hb => e _ (by unfold ixB; omega) (by unfold ixB; omega)), LWr_same t3 (rD _ (by decide) (by decide)) (rD _ (by decide) (by decide)) (fun k hk => e k (by omega) (by omega)), CWr_same t4 (rD _ (by decide) (by decide)) (rD _ (by decide) (by decide)) (fun k h1 h2 => e k (by omega) (by omega)), TWr_same t5 (rD _ (by decide) (by decide)) (rD _ (by decide) (by decide)) (e _ (by decide) (by decide)) (fun a b ha hb => e _ (by unfold ixS; omega) (by unfold ixS; omega)), TWr_same t6 (rD _ (by decide) (by decide)) (rD _ (by decide) (by decide)) (e _ (by decide) (by decide)) (fun a b ha hb => e _ (by unfold ixH; omega) (by unfold ixH; omega)), TWr_same t7 (rD _ (by decide) (by decide)) (rD _ (by decide) (by decide)) (e _ (by decide) (by decide)) (fun a b ha hb => e _ (by unfold ixR; omega) (by unfold ixR; omega)), h8, ?_, ?_, ?_, ?_⟩
  · rw [rD 1 (by decide) (by decide), e 113 (by decide) (by decide)]; exact c1
  · rw [rD 1 (by decide) (by decide), e 114 (by decide) (by decide)]; exact c2
  · rw [rD 1 (by decide) (by decide), e 0 (by decide) (by decide)]; exact c3
  · rw [rD 1 (by decide) (by decide), e 1 (by decide) (by decide)]; exact c4
/-- a table cleared -/
theorem TWr_clear {t W M cnt : Nat} {ix : Nat → Nat → Nat} {D D' : Nat → Nat → Int32} {w w' : Nat → Int32} (h : TWr t W M cnt ix D w) (e : ∀ c, c ≠ 3 → D' t c = D t c) (e3 : D' t 3 = ci 0) (ec : w' cnt = ci 0) : TWr t W M cnt ix D' w' :=
  ⟨(e 0 (by decide)).trans h.1, (e 1 (by decide)).trans h.2.1, 0, Nat.zero_le _, e3.trans (by decide), ec.trans (by decide), fun r c hr => absurd hr (by omega)⟩
theorem al_15 : m_alen (14 + 1) = 32 := by decide +kernel
theorem al_17 : m_alen (16 + 1) = 24 := by decide +kernel
theorem R_room {a b : mG} {x y z u : Int32} (h : SIM a b) : rel (F_X11_room x y z u a) (F_X12_room x y z u b) (fun τ υ => τ.1 = υ.1 ∧ SIM τ.2 υ.2) := by
  obtain ⟨⟨n, nb, nc, hn, hnb, e2, e4, e8, H, L, V⟩, _⟩ := id h
  have h112 := SIM_n H e2
  have t7 := H.2.2.2.2.2.2.1
  obtain ⟨w0, w1, m, hm, g3, gc, gx⟩ := id t7
  have g3 : a.1 14 3 = cn m := g3
  have w0 : a.1 14 0 = cn 8 := w0
  have w1 : a.1 14 1 = cn 4 := w1
  unfold F_X11_room F_X12_room F_X11_room_73 F_X12_room_67
  by_cases hx : x = ci (-1)
  · rw [if_pos hx, if_pos hx]
    unfold F_X10_clear
    dsimp only
    rw [b1_some]
    refine rel_some ⟨rfl, SIM_rc h (HSr_7 H (TWr_clear t7 (fun c hc => mu_cell (Or.inr hc)) mu_same mu_same) (fun j h1 _ => mu_row h1) (fun k h1 _ => mu_cell (Or.inr h1))) (fun j h1 _ _ _ => mu_row h1) (fun j h1 => mu_row h1) (fun k hk => mu_cell (Or.inr (by omega)))⟩
  rw [if_neg hx, if_neg hx, V_isGuest, V_isGuestR h112 hn, b1_some, b1_some, show a.1 (1 + 1) 3 = cn n from e2]
  by_cases hg : ig x (cn n) = 0
  · rw [if_pos hg, if_pos hg]; exact rel_some ⟨rfl, h⟩
  rw [if_neg hg, if_neg hg, V_within, F_isIn, b1_some, b1_some]
  by_cases h1 : wi y (ci 1) (c8 99) = 0
  · rw [if_pos h1, if_pos h1]; exact rel_some ⟨rfl, h⟩
  rw [if_neg h1, if_neg h1, V_within, F_isIn, b1_some, b1_some]
  by_cases h2 : wi z (ci 1) (c16 999) = 0
  · rw [if_pos h2, if_pos h2]; exact rel_some ⟨rfl, h⟩
  rw [if_neg h2, if_neg h2, V_within, F_isIn, b1_some, b1_some]
  by_cases h3 : wi u (ci 0) (c8 99) = 0
  · rw [if_pos h3, if_pos h3]; exact rel_some ⟨rfl, h⟩
  rw [if_neg h3, if_neg h3, V_full w0 g3 (by omega) (by decide), b1_some, gc]
  by_cases kf : m < 8
  · have PUT : ∀ (D : Nat → Nat → Int32) (c : Nat) (cc v : Int32), cc = cn c → D 14 = mu a.1 14 3 (cn (m + 1)) 14 → c < 4 → F_X10_put 14 (cn m) cc v (D, a.2) = some (mu D 15 (m * 4 + c) v, a.2) := fun D c cc v e d hc =>
      V_put (t := 14) (s := (D, a.2)) (r := m) (c := c) (n := m + 1) (W := 4) rfl e (by show D 14 1 = _; rw [d, mu_cell (by decide)]; exact w1) (by show D 14 3 = _; rw [d, mu_same]) (by omega) hc (by rw [al_15]; omega) (by omega)
    rw [if_pos kf, if_pos c0e0, V_add w0 g3 (by decide) kf, b2_some, PUT _ 0 (ci 0) x rfl rfl (by decide), b1_some, PUT _ 1 (ci 1) y rfl (mu_row (by decide)) (by decide), b1_some, PUT _ 2 (ci 2) z rfl ((mu_row (by decide)).trans (mu_row (by decide))) (by decide), b1_some, PUT _ 3 (ci 3) u rfl ((mu_row (by decide)).trans ((mu_row (by decide)).trans (mu_row (by decide)))) (by decide), b1_some, if_neg (fun q => absurd ((cn_inj (b := 8) (by omega) (by decide)).mp (q.trans (by decide))) (by omega))]
    have e16 : c16 203 + (ci 4) * cn m = cn (203 + 4 * m) := by
      rw [show (ci 4) * cn m = cn (4 * m) from cn_mul (a := 4) (by omega) (by omega) (by omega)]
      exact cn_add (a := 203) (by omega)
    rw [e16]
    dsimp only
    rw [show cn (203 + 4 * m) + ci 0 = cn (203 + 4 * m) from cn_add (b := 0) (by omega), show cn (203 + 4 * m) + ci 1 = cn (203 + 4 * m + 1) from cn_add (b := 1) (by omega), show cn (203 + 4 * m) + ci 2 = cn (203 + 4 * m + 2) from cn_add (b := 2) (by omega), show cn (203 + 4 * m) + ci 3 = cn (203 + 4 * m + 3) from cn_add (b := 3) (by omega), cn_nat (n := 203 + 4 * m) (by omega), cn_nat (n := 203 + 4 * m + 1) (by omega), cn_nat (n := 203 + 4 * m + 2) (by omega), cn_nat (n := 203 + 4 * m + 3) (by omega)]
    refine rel_rg (rel_rg (rel_rg (rel_rg ?_)))
    have eD : mu (mu (mu (mu (mu a.1 14 3 (cn (m + 1))) 15 (m * 4 + 0) x) 15 (m * 4 + 1) y) 15 (m * 4 + 2) z) 15 (m * 4 + 3) u = BL (mu a.1 14 3 (cn (m + 1))) 15 (m * 4) [x, y, z, u] := rfl
    have eE : mu (mu (mu (mu b.1 89 (203 + 4 * m) x) 89 (203 + 4 * m + 1) y) 89 (203 + 4 * m + 2) z) 89 (203 + 4 * m + 3) u = BL b.1 89 (203 + 4 * m) [x, y, z, u] := rfl
    rw [eD, eE]
    have e118 : BL b.1 89 (203 + 4 * m) [x, y, z, u] 89 118 = cn m := (BL_out _ _ _ (by omega)).trans gc
    rw [e118, cnu (by omega), BL_row (j := 14) (t := 15) (by decide), mu_same, mu_same]
    have c89 : ∀ k, k ≠ 118 → (k < 203 + 4 * m ∨ 203 + 4 * m + 4 ≤ k) → mu (BL b.1 89 (203 + 4 * m) [x, y, z, u]) 89 118 (cn (m + 1)) 89 k = b.1 89 k := fun k h1 h2 => (mu_cell (Or.inr h1)).trans (BL_out _ _ _ h2)
    refine rel_some ⟨rfl, SIM_rc h (HSr_7 H (TWr_add (n := m) t7 g3 kf (by decide) (fun c hc => ?_) ?_ (fun k hk => ?_) mu_same (fun r c hr hc => c89 _ (by unfold ixR; omega) (by unfold ixR; omega)) (fun c hc => ?_)) (fun j h1 h2 => (BL_row h2 _ _ _).trans (mu_row h1)) (fun k h1 h2 => c89 k h1 (by omega))) (fun j h1 h2 _ _ => (BL_row h2 _ _ _).trans (mu_row h1)) (fun j h1 => (mu_row h1).trans (BL_row h1 _ _ _)) (fun k hk => c89 k (by omega) (by omega))⟩
    · rw [BL_row (by decide)]; exact mu_cell (Or.inr hc)
    · rw [BL_row (by decide)]; exact mu_same
    · show BL _ 15 (m * 4) [x, y, z, u] 15 k = a.1 15 k
      rw [BL_out _ _ _ (Or.inl hk)]; exact congrFun (mu_row (by decide)) k
    · show BL _ 15 (m * 4) [x, y, z, u] 15 (m * 4 + c) = _
      rw [BL_in _ _ _ hc, mu_cell (Or.inr (by unfold ixR; omega)), show ixR m c = 203 + 4 * m + c from rfl, BL_in _ _ _ hc]
  · rw [if_neg kf, if_neg c1n0, if_pos (show cn m = c8 8 by rw [show m = 8 by omega]; decide)]
    exact rel_some ⟨rfl, h⟩
theorem R_caller {a b : mG} {x y z : Int32} (h : SIM a b) : rel (F_X11_caller x y z a) (F_X12_caller x y z b) (fun τ υ => τ.1 = υ.1 ∧ SIM τ.2 υ.2) := by
  obtain ⟨⟨n, nb, nc, hn, hnb, e2, e4, e8, H, L, V⟩, _⟩ := id h
  have h112 := SIM_n H e2
  have t8 := H.2.2.2.2.2.2.2.1
  obtain ⟨w0, w1, m, hm, g3, gc, gx⟩ := id t8
  have g3 : a.1 16 3 = cn m := g3
  have w0 : a.1 16 0 = cn 8 := w0
  have w1 : a.1 16 1 = cn 3 := w1
  unfold F_X11_caller F_X12_caller F_X11_caller_63 F_X12_caller_59
  by_cases hx : x = ci (-1)
  · rw [if_pos hx, if_pos hx]
    unfold F_X10_clear
    dsimp only
    rw [b1_some]
    refine rel_some ⟨rfl, SIM_rc h (HSr_8 H (TWr_clear t8 (fun c hc => mu_cell (Or.inr hc)) mu_same mu_same) (fun j h1 _ => mu_row h1) (fun k h1 _ => mu_cell (Or.inr h1))) (fun j _ _ h1 _ => mu_row h1) (fun j h1 => mu_row h1) (fun k hk => mu_cell (Or.inr (by omega)))⟩
  rw [if_neg hx, if_neg hx, V_isGuest, V_isGuestR h112 hn, b1_some, b1_some, show a.1 (1 + 1) 3 = cn n from e2]
  by_cases hg : ig x (cn n) = 0
  · rw [if_pos hg, if_pos hg]; exact rel_some ⟨rfl, h⟩
  rw [if_neg hg, if_neg hg, V_within, F_isIn, b1_some, b1_some]
  by_cases h1 : wi y (ci 0) (c16 999) = 0
  · rw [if_pos h1, if_pos h1]; exact rel_some ⟨rfl, h⟩
  rw [if_neg h1, if_neg h1, V_within, F_isIn, b1_some, b1_some]
  by_cases h2 : wi z (ci 0) (c16 999) = 0
  · rw [if_pos h2, if_pos h2]; exact rel_some ⟨rfl, h⟩
  rw [if_neg h2, if_neg h2, V_full w0 g3 (by omega) (by decide), b1_some, gc]
  by_cases kf : m < 8
  · have PUT : ∀ (D : Nat → Nat → Int32) (c : Nat) (cc v : Int32), cc = cn c → D 16 = mu a.1 16 3 (cn (m + 1)) 16 → c < 3 → F_X10_put 16 (cn m) cc v (D, a.2) = some (mu D 17 (m * 3 + c) v, a.2) := fun D c cc v e d hc =>
      V_put (t := 16) (s := (D, a.2)) (r := m) (c := c) (n := m + 1) (W := 3) rfl e (by show D 16 1 = _; rw [d, mu_cell (by decide)]; exact w1) (by show D 16 3 = _; rw [d, mu_same]) (by omega) hc (by rw [al_17]; omega) (by omega)
    rw [if_pos kf, if_pos c0e0, V_add w0 g3 (by decide) kf, b2_some, PUT _ 0 (ci 0) x rfl rfl (by decide), b1_some, PUT _ 1 (ci 1) y rfl (mu_row (by decide)) (by decide), b1_some, PUT _ 2 (ci 2) z rfl ((mu_row (by decide)).trans (mu_row (by decide))) (by decide), b1_some, if_neg (fun q => absurd ((cn_inj (b := 8) (by omega) (by decide)).mp (q.trans (by decide))) (by omega))]
    have e16 : c16 1870 + (ci 3) * cn m = cn (1870 + 3 * m) := by
      rw [show (ci 3) * cn m = cn (3 * m) from cn_mul (a := 3) (by omega) (by omega) (by omega)]
      exact cn_add (a := 1870) (by omega)
    rw [e16]
    dsimp only
    rw [show cn (1870 + 3 * m) + ci 1 = cn (1870 + 3 * m + 1) from cn_add (b := 1) (by omega), show cn (1870 + 3 * m) + ci 2 = cn (1870 + 3 * m + 2) from cn_add (b := 2) (by omega), cn_nat (n := 1870 + 3 * m) (by omega), cn_nat (n := 1870 + 3 * m + 1) (by omega), cn_nat (n := 1870 + 3 * m + 2) (by omega)]
    refine rel_rg (rel_rg (rel_rg ?_))
    have eD : mu (mu (mu (mu a.1 16 3 (cn (m + 1))) 17 (m * 3 + 0) x) 17 (m * 3 + 1) y) 17 (m * 3 + 2) z = BL (mu a.1 16 3 (cn (m + 1))) 17 (m * 3) [x, y, z] := rfl
    have eE : mu (mu (mu b.1 89 (1870 + 3 * m) x) 89 (1870 + 3 * m + 1) y) 89 (1870 + 3 * m + 2) z = BL b.1 89 (1870 + 3 * m) [x, y, z] := rfl
    rw [eD, eE]
    have e118 : BL b.1 89 (1870 + 3 * m) [x, y, z] 89 1049 = cn m := (BL_out _ _ _ (by omega)).trans gc
    rw [e118, cnu (by omega), BL_row (j := 16) (t := 17) (by decide), mu_same, mu_same]
    have c89 : ∀ k, k ≠ 1049 → (k < 1870 + 3 * m ∨ 1870 + 3 * m + 3 ≤ k) → mu (BL b.1 89 (1870 + 3 * m) [x, y, z]) 89 1049 (cn (m + 1)) 89 k = b.1 89 k := fun k h1 h2 => (mu_cell (Or.inr h1)).trans (BL_out _ _ _ h2)
    refine rel_some ⟨rfl, SIM_rc h (HSr_8 H (TWr_add (n := m) t8 g3 kf (by decide) (fun c hc => ?_) ?_ (fun k hk => ?_) mu_same (fun r c hr hc => c89 _ (by unfold ixC; omega) (by unfold ixC; omega)) (fun c hc => ?_)) (fun j h1 h2 => (BL_row h2 _ _ _).trans (mu_row h1)) (fun k h1 h2 => c89 k h1 (by omega))) (fun j _ _ h1 h2 => (BL_row h2 _ _ _).trans (mu_row h1)) (fun j h1 => (mu_row h1).trans (BL_row h1 _ _ _)) (fun k hk => c89 k (by omega) (by omega))⟩
    · rw [BL_row (by decide)]; exact mu_cell (Or.inr hc)
    · rw [BL_row (by decide)]; exact mu_same
    · show BL _ 17 (m * 3) [x, y, z] 17 k = a.1 17 k
      rw [BL_out _ _ _ (Or.inl hk)]; exact congrFun (mu_row (by decide)) k
    · show BL _ 17 (m * 3) [x, y, z] 17 (m * 3 + c) = _
      rw [BL_in _ _ _ hc, mu_cell (Or.inr (by unfold ixC; omega)), show ixC m c = 1870 + 3 * m + c from rfl, BL_in _ _ _ hc]
  · rw [if_neg kf, if_neg c1n0, if_pos (show cn m = c8 8 by rw [show m = 8 by omega]; decide)]
    exact rel_some ⟨rfl, h⟩
end
