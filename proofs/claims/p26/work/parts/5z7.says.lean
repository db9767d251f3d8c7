noncomputable section
/-! WHAT IS KNOWN OF A GUEST, here and there; what the reference says -/
/-- the facts by the reference's places 1 to 9 -/
def FAc (w : Nat → Int32) (g : Nat) (hour pear since : Int32) (j : Nat) : Int32 := if j = 1 then cn g else if j = 2 then w (119 + g) else if j = 3 then w (131 + g) else if j = 4 then rm hour (c8 24) else if j = 5 then hour / c8 24 else if j = 6 then pear else if j = 7 then w 114 else if j = 8 then (if w (15 + g) = ci (-1) then ci 0 else ci 1) else since
/-- the class knows them -/
def KNc (w : Nat → Int32) (g : Nat) (hour pear since : Int32) (u : mG) : Prop := ∀ j, j < 9 → u.1 69 j = FAc w g hour pear since (j + 1)
theorem lt9 {j : Nat} (h : j < 9) : j = 0 ∨ j = 1 ∨ j = 2 ∨ j = 3 ∨ j = 4 ∨ j = 5 ∨ j = 6 ∨ j = 7 ∨ j = 8 := by omega
theorem V_put69 {k : Nat} {e v : Int32} {s : mG} (he : e = cn k) (hk : k < 9) : F_X11_put 69 e v s = some (mu s.1 69 k v, s.2) := by
  rw [he]; exact V_putJ sh69 hk (by decide)
theorem V_supposeHour {w : Nat → Int32} {g : Nat} {h p s x : Int32} {a : mG} (hk : KNc w g h p s a) : pk (F_X3_supposeHour x a) (fun u => KNc w g x p s u ∧ ∀ j, j ≠ 69 → u.1 j = a.1 j) := by
  unfold F_X3_supposeHour
  rw [V_put69 (k := 3) (e := ci 3) (by decide) (by decide), b1_some, V_put69 (k := 4) (e := ci 4) (by decide) (by decide), b1_some]
  refine pk_some ⟨fun j hj => ?_, fun j hj => (mu_row hj).trans (mu_row hj)⟩
  dsimp only
  rcases lt9 hj with e | e | e | e | e | e | e | e | e <;> subst e
  · exact (mu_cell (by decide)).trans ((mu_cell (by decide)).trans (hk 0 (by decide)))
  · exact (mu_cell (by decide)).trans ((mu_cell (by decide)).trans (hk 1 (by decide)))
  · exact (mu_cell (by decide)).trans ((mu_cell (by decide)).trans (hk 2 (by decide)))
  · exact (mu_cell (by decide)).trans mu_same
  · exact mu_same
  · exact (mu_cell (by decide)).trans ((mu_cell (by decide)).trans (hk 5 (by decide)))
  · exact (mu_cell (by decide)).trans ((mu_cell (by decide)).trans (hk 6 (by decide)))
  · exact (mu_cell (by decide)).trans ((mu_cell (by decide)).trans (hk 7 (by decide)))
  · exact (mu_cell (by decide)).trans ((mu_cell (by decide)).trans (hk 8 (by decide)))
theorem KN_put {w : Nat → Int32} {g : Nat} {h p s h' p' s' v : Int32} {a : mG} {k : Nat} (hk : KNc w g h p s a) (hv : v = FAc w g h' p' s' (k + 1)) (ho : ∀ j, j < 9 → j ≠ k → FAc w g h p s (j + 1) = FAc w g h' p' s' (j + 1)) : KNc w g h' p' s' (mu a.1 69 k v, a.2) := fun j hj => by
  by_cases e : j = k
  · subst e; exact mu_sameQ.trans hv
  · exact (mu_cellQ (Or.inr e)).trans ((hk j hj).trans (ho j hj e))
theorem al_G : m_alen (2 + 1) = 132 := by decide +kernel
theorem V_atG {w : Nat → Int32} {s : mG} {n g c : Nat} {k : Int32} (hG : TWr 2 11 12 112 ixG s.1 w) (h3 : s.1 2 3 = cn n) (hn : n ≤ 12) (hg : g < n) (hc : c < 11) (hk : k = cn c) : F_X10_at 2 s (cn g) k = some (w (ixG g c)) := TWr_at hG h3 hn hg hc rfl hk (by decide) (by rw [al_G]; decide)
theorem V_face {w : Nat → Int32} {a : mG} {n g : Nat} (hG : TWr 2 11 12 112 ixG a.1 w) (h3 : a.1 2 3 = cn n) (hn : n ≤ 12) (hg : g < n) (e8 : a.1 1 8 = w 113) (e9 : a.1 1 9 = w 114) (e10 : a.1 1 10 = w 0) : pk (F_X3_face (cn g) a) (fun u => KNc w g (w 0) (w 113) (w (27 + g)) u ∧ ∀ j, j ≠ 69 → u.1 j = a.1 j) := by
  have atG : ∀ (s : mG) (c : Nat) (k : Int32), (∀ j, j ≠ 69 → s.1 j = a.1 j) → c < 11 → k = cn c → F_X10_at 2 s (cn g) k = some (w (ixG g c)) := fun s c k hs hc hk => by
    refine V_atG ?_ (by rw [hs 2 (by decide)]; exact h3) hn hg hc hk
    exact TWr_same hG (hs 2 (by decide)) (hs 3 (by decide)) rfl (fun _ _ _ _ => rfl)
  unfold F_X3_face
  rw [V_put69 (k := 0) (e := ci 0) (by decide) (by decide), b1_some]
  have q1 : ∀ j, j ≠ 69 → ((mu a.1 69 0 (cn g), a.2) : mG).1 j = a.1 j := fun j hj => mu_row hj
  have v1 : ((mu a.1 69 0 (cn g), a.2) : mG).1 69 0 = cn g := mu_sameQ
  generalize ((mu a.1 69 0 (cn g), a.2) : mG) = s1 at *
  rw [atG s1 0 (ci 0) q1 (by decide) rfl, b1_some, V_put69 (k := 1) (e := ci 1) (by decide) (by decide), b1_some]
  have q2 : ∀ j, j ≠ 69 → ((mu s1.1 69 1 (w (ixG g 0)), s1.2) : mG).1 j = a.1 j := fun j hj => (mu_row hj).trans (q1 j hj)
  have v2 : ((mu s1.1 69 1 (w (ixG g 0)), s1.2) : mG).1 69 0 = cn g ∧ ((mu s1.1 69 1 (w (ixG g 0)), s1.2) : mG).1 69 1 = w (119 + g) := ⟨(mu_cellQ (by decide)).trans v1, mu_sameQ⟩
  generalize ((mu s1.1 69 1 (w (ixG g 0)), s1.2) : mG) = s2 at *
  rw [atG s2 1 (ci 1) q2 (by decide) rfl, b1_some, V_put69 (k := 2) (e := ci 2) (by decide) (by decide), b1_some]
  have q3 : ∀ j, j ≠ 69 → ((mu s2.1 69 2 (w (ixG g 1)), s2.2) : mG).1 j = a.1 j := fun j hj => (mu_row hj).trans (q2 j hj)
  have v3 : ((mu s2.1 69 2 (w (ixG g 1)), s2.2) : mG).1 69 0 = cn g ∧ ((mu s2.1 69 2 (w (ixG g 1)), s2.2) : mG).1 69 1 = w (119 + g) ∧ ((mu s2.1 69 2 (w (ixG g 1)), s2.2) : mG).1 69 2 = w (131 + g) := ⟨(mu_cellQ (by decide)).trans v2.1, (mu_cellQ (by decide)).trans v2.2, mu_sameQ⟩
  generalize ((mu s2.1 69 2 (w (ixG g 1)), s2.2) : mG) = s3 at *
  rw [q3 1 (by decide), e8, V_put69 (k := 5) (e := ci 5) (by decide) (by decide), b1_some]
  have q4 : ∀ j, j ≠ 69 → ((mu s3.1 69 5 (w 113), s3.2) : mG).1 j = a.1 j := fun j hj => (mu_row hj).trans (q3 j hj)
  have v4 : (∀ j, j < 5 → ((mu s3.1 69 5 (w 113), s3.2) : mG).1 69 j = s3.1 69 j) ∧ ((mu s3.1 69 5 (w 113), s3.2) : mG).1 69 5 = w 113 := ⟨fun j hj => mu_cellQ (Or.inr (by omega)), mu_sameQ⟩
  generalize ((mu s3.1 69 5 (w 113), s3.2) : mG) = s4 at *
  rw [q4 1 (by decide), e9, V_put69 (k := 6) (e := c8 6) (by decide) (by decide), b1_some]
  have q5 : ∀ j, j ≠ 69 → ((mu s4.1 69 6 (w 114), s4.2) : mG).1 j = a.1 j := fun j hj => (mu_row hj).trans (q4 j hj)
  have v5 : (∀ j, j < 6 → ((mu s4.1 69 6 (w 114), s4.2) : mG).1 69 j = s4.1 69 j) ∧ ((mu s4.1 69 6 (w 114), s4.2) : mG).1 69 6 = w 114 := ⟨fun j hj => mu_cellQ (Or.inr (by omega)), mu_sameQ⟩
  generalize ((mu s4.1 69 6 (w 114), s4.2) : mG) = s5 at *
  rw [atG s5 3 (ci 3) q5 (by decide) rfl, b1_some]
  have fin : ∀ y, y = (if w (15 + g) = ci (-1) then ci 0 else ci 1) → pk (F_X3_face_107 (cn g) (c8 7) y s5) (fun u => KNc w g (w 0) (w 113) (w (27 + g)) u ∧ ∀ j, j ≠ 69 → u.1 j = a.1 j) := fun y hy => by
    unfold F_X3_face_107
    rw [V_put69 (k := 7) (e := c8 7) (by decide) (by decide), b1_some]
    have q6 : ∀ j, j ≠ 69 → ((mu s5.1 69 7 y, s5.2) : mG).1 j = a.1 j := fun j hj => (mu_row hj).trans (q5 j hj)
    have v6 : (∀ j, j < 7 → ((mu s5.1 69 7 y, s5.2) : mG).1 69 j = s5.1 69 j) ∧ ((mu s5.1 69 7 y, s5.2) : mG).1 69 7 = y := ⟨fun j hj => mu_cellQ (Or.inr (by omega)), mu_sameQ⟩
    generalize ((mu s5.1 69 7 y, s5.2) : mG) = s6 at *
    rw [atG s6 4 (ci 4) q6 (by decide) rfl, b1_some, V_put69 (k := 8) (e := c8 8) (by decide) (by decide), b1_some]
    have q7 : ∀ j, j ≠ 69 → ((mu s6.1 69 8 (w (ixG g 4)), s6.2) : mG).1 j = a.1 j := fun j hj => (mu_row hj).trans (q6 j hj)
    have v7 : (∀ j, j < 8 → ((mu s6.1 69 8 (w (ixG g 4)), s6.2) : mG).1 69 j = s6.1 69 j) ∧ ((mu s6.1 69 8 (w (ixG g 4)), s6.2) : mG).1 69 8 = w (27 + g) := ⟨fun j hj => mu_cellQ (Or.inr (by omega)), mu_sameQ⟩
    generalize ((mu s6.1 69 8 (w (ixG g 4)), s6.2) : mG) = s7 at *
    rw [q7 1 (by decide), e10]
    unfold F_X3_supposeHour
    rw [V_put69 (k := 3) (e := ci 3) (by decide) (by decide), b1_some, V_put69 (k := 4) (e := ci 4) (by decide) (by decide), b1_some, b1_some]
    refine pk_some ⟨fun j hj => ?_, fun j hj => (mu_row hj).trans ((mu_row hj).trans (q7 j hj))⟩
    dsimp only
    rcases lt9 hj with e | e | e | e | e | e | e | e | e <;> subst e
    · exact (mu_cell (by decide)).trans ((mu_cell (by decide)).trans ((v7.1 0 (by decide)).trans ((v6.1 0 (by decide)).trans ((v5.1 0 (by decide)).trans ((v4.1 0 (by decide)).trans v3.1)))))
    · exact (mu_cell (by decide)).trans ((mu_cell (by decide)).trans ((v7.1 1 (by decide)).trans ((v6.1 1 (by decide)).trans ((v5.1 1 (by decide)).trans ((v4.1 1 (by decide)).trans v3.2.1)))))
    · exact (mu_cell (by decide)).trans ((mu_cell (by decide)).trans ((v7.1 2 (by decide)).trans ((v6.1 2 (by decide)).trans ((v5.1 2 (by decide)).trans ((v4.1 2 (by decide)).trans v3.2.2)))))
    · exact (mu_cell (by decide)).trans mu_same
    · exact mu_same
    · exact (mu_cell (by decide)).trans ((mu_cell (by decide)).trans ((v7.1 5 (by decide)).trans ((v6.1 5 (by decide)).trans ((v5.1 5 (by decide)).trans v4.2))))
    · exact (mu_cell (by decide)).trans ((mu_cell (by decide)).trans ((v7.1 6 (by decide)).trans ((v6.1 6 (by decide)).trans v5.2)))
    · exact (mu_cell (by decide)).trans ((mu_cell (by decide)).trans ((v7.1 7 (by decide)).trans (v6.2.trans hy)))
    · exact (mu_cell (by decide)).trans ((mu_cell (by decide)).trans v7.2)
  by_cases hb : w (ixG g 3) = ci (-1)
  · rw [if_pos hb]
    exact fin _ (by rw [if_pos (show w (15 + g) = ci (-1) from hb)])
  · rw [if_neg hb]
    exact fin _ (by rw [if_neg (show ¬ w (15 + g) = ci (-1) from hb)])
/-! the reference -/
theorem V_onB {s : mG} {g : Nat} (hg : g < 12) : pk (F_X12_isOnBoard s (cn g)) (fun v => v = if s.1 89 (15 + g) = ci (-1) then ci 0 else ci 1) := by
  unfold F_X12_isOnBoard
  rw [show c8 15 + cn g = cn (15 + g) from cn_add (a := 15) (by omega), cn_nat (n := 15 + g) (by omega)]
  refine pk_nn ?_
  by_cases h : s.1 89 (15 + g) = ci (-1)
  · rw [if_pos h, if_pos h]; exact pk_some rfl
  · rw [if_neg h, if_neg h]; exact pk_some rfl
theorem V_without {s : mG} {g x : Nat} (hg : g < 12) (hx : x < 6) : pk (F_X12_without s (cn (20 + x)) (cn g)) (fun v => v = LVd x (if s.1 89 (15 + g) = ci (-1) then ci 0 else ci 1)) := by
  have e : x = 0 ∨ x = 1 ∨ x = 2 ∨ x = 3 ∨ x = 4 ∨ x = 5 := by omega
  rcases e with e | e | e | e | e | e <;> subst e
  · exact pk_some (show c8 100 = LVd 0 _ from by unfold LVd; rw [if_neg (by decide)]; decide +kernel)
  · exact pk_some (show c16 200 = LVd 1 _ from by unfold LVd; rw [if_neg (by decide)]; decide +kernel)
  · exact pk_some (show c16 300 = LVd 2 _ from by unfold LVd; rw [if_neg (by decide)]; decide +kernel)
  · exact pk_some (show ci 0 = LVd 3 _ from by unfold LVd; rw [if_neg (by decide)]; decide +kernel)
  · exact pk_some (show c16 500 = LVd 4 _ from by unfold LVd; rw [if_neg (by decide)]; decide +kernel)
  · have e : F_X12_without s (cn (20 + 5)) (cn g) = b1 (F_X12_isOnBoard s (cn g)) fun v7 => if v7 = 0 then some (c16 900) else some (c8 100) := rfl
    rw [e]
    refine pk_b1 (V_onB hg) (fun v hv => ?_)
    rw [← hv]
    unfold LVd
    rw [if_pos rfl]
    by_cases h : v = 0
    · rw [if_pos h, if_pos h]; exact pk_some rfl
    · rw [if_neg h, if_neg h]; exact pk_some rfl
theorem V_isSo {f : Nat → Int32} {z b : mG} {nc n r : Nat} (hf : ∀ j, 1 ≤ j → j < 10 → z.1 97 j = f j) (hz : ∀ j, j ≠ 96 → b.1 j = z.1 j) (hnc : nc ≤ 400) (hr : r < 16) (hT : LTl nc (z.1 89) r) : pk (F_X12_isSo (cn r) b) (fun τ => (τ.1 = 0 ↔ ¬ (z.1 89 (1017 + r) = z.1 89 (1001 + r) ∨ EVw (z.1 89) f (z.1 89 (1001 + r)).toNatClampNeg (z.1 89 (1017 + r)).toNatClampNeg = ci 1)) ∧ ∀ j, j ≠ 96 → τ.2.1 j = z.1 j) := by
  obtain ⟨p, q, c, hpq, hqc, hc, z1, z2, z3, z4, z5⟩ := hT
  unfold F_X12_isSo F_X12_isSo_52
  rw [show c16 1017 + cn r = cn (1017 + r) from cn_add (a := 1017) (by omega), show c16 1001 + cn r = cn (1001 + r) from cn_add (a := 1001) (by omega), cn_nat (n := 1017 + r) (by omega), cn_nat (n := 1001 + r) (by omega), hz 89 (by decide)]
  refine pk_nn (pk_nn ?_)
  by_cases h : z.1 89 (1017 + r) = z.1 89 (1001 + r)
  · rw [if_pos h]
    exact pk_some ⟨⟨fun e => absurd e c1n0, fun e => absurd (Or.inl h) e⟩, hz⟩
  · rw [if_neg h]
    refine pk_nn (pk_nn ?_)
    have hqc2 : q ≠ c := fun e => h (by rw [z2, z3, e])
    rw [z2, z3, cn_nat (n := q) (by omega), cn_nat (n := c) (by omega)]
    refine pk_b2 (V_valR hf hz hqc (by omega) (z5.resolve_left hqc2)) (fun v t k => ?_)
    obtain ⟨k1, _, k3⟩ := k
    have k1 : v = EVw (z.1 89) f q c := k1
    rw [← k1]
    by_cases hv : v = ci 1
    · rw [if_pos hv]
      exact pk_some ⟨⟨fun e => absurd e c1n0, fun e => absurd (Or.inr hv) e⟩, k3⟩
    · rw [if_neg hv]
      refine pk_some ⟨⟨fun _ e => ?_, fun _ => c0e0⟩, k3⟩
      rcases e with e | e
      · exact hqc2 ((cn_inj (by omega) (by omega)).mp e).symm
      · exact hv e
theorem V_saysL {f : Nat → Int32} {z : mG} {nc g x : Nat} (hT : LTy nc (z.1 89)) (hf : ∀ j, 1 ≤ j → j < 10 → z.1 97 j = f j) (hb : f 8 = if z.1 89 (15 + g) = ci (-1) then ci 0 else ci 1) (hg : g < 12) (hx : x < 6) : pk (F_X12_saysIn_L113 (cn (20 + x)) (cn g) (ci 0) z) (fun τ => τ.1 = LV (z.1 89) f x ∧ ∀ j, j ≠ 96 → τ.2.1 j = z.1 j) := by
  obtain ⟨hnc, n, hn, l117, hT⟩ := hT
  have e117 : (z.1 89 117).toNatClampNeg = n := by rw [l117, cn_nat (by omega)]
  unfold F_X12_saysIn_L113
  refine pk_whl (fun v => ∃ r, r ≤ n ∧ v.1 = cn (20 + x) ∧ v.2.1 = cn g ∧ v.2.2.1 = cn r ∧ (∀ j, j ≠ 96 → v.2.2.2.1 j = z.1 j) ∧ LVf (z.1 89) f x (n - r) r = LV (z.1 89) f x) ⟨0, Nat.zero_le _, rfl, rfl, rfl, fun _ _ => rfl, by unfold LV; rw [e117, Nat.sub_zero]⟩ (fun v hv => ?_)
  obtain ⟨x1, x2, x6, u⟩ := v
  obtain ⟨r, hr, g1, g2, g3, g4, g5⟩ := hv
  have g1 : x1 = cn (20 + x) := g1
  have g2 : x2 = cn g := g2
  have g3 : x6 = cn r := g3
  have g4 : ∀ j, j ≠ 96 → u.1 j = z.1 j := g4
  subst g1; subst g2; subst g3
  unfold F_X12_saysIn_B113
  dsimp only
  rw [g4 89 (by decide), l117]
  by_cases hrn : n ≤ r
  · rw [if_pos ((cn_le (by omega) (by omega)).mpr hrn)]
    rw [show n - r = 0 by omega] at g5
    have g5 : LVd x (f 8) = LV (z.1 89) f x := g5
    refine pk_b1 (V_without hg hx) (fun v hv => ?_)
    rw [g4 89 (by decide), ← hb] at hv
    exact pk_some ⟨hv.trans g5, g4⟩
  · rw [if_neg (fun q => hrn ((cn_le (by omega) (by omega)).mp q)), show c16 1033 + cn r = cn (1033 + r) from cn_add (a := 1033) (by omega), cn_nat (n := 1033 + r) (by omega)]
    refine pk_nn ?_
    have hTr := hT r (by omega)
    obtain ⟨p, q, c, hpq, hqc, hc, z1, z2, z3, z4, z5⟩ := hT r (by omega)
    have f1 : (z.1 89 (985 + r)).toNatClampNeg = p := by rw [z1, cn_nat (by omega)]
    have f2 : (z.1 89 (1001 + r)).toNatClampNeg = q := by rw [z2, cn_nat (by omega)]
    have step : LVf (z.1 89) f x (n - r) r = if z.1 89 (1033 + r) = cn (20 + x) ∧ (z.1 89 (1017 + r) = z.1 89 (1001 + r) ∨ EVw (z.1 89) f (z.1 89 (1001 + r)).toNatClampNeg (z.1 89 (1017 + r)).toNatClampNeg = ci 1) then clL (EVw (z.1 89) f p q) else LVf (z.1 89) f x (n - (r + 1)) (r + 1) := by
      rw [show n - r = (n - (r + 1)) + 1 by omega]
      show (if _ then _ else _) = _
      rw [f1, f2]
    have no : ∀ s : mG, (∀ j, j ≠ 96 → s.1 j = z.1 j) → ¬ (z.1 89 (1033 + r) = cn (20 + x) ∧ (z.1 89 (1017 + r) = z.1 89 (1001 + r) ∨ EVw (z.1 89) f (z.1 89 (1001 + r)).toNatClampNeg (z.1 89 (1017 + r)).toNatClampNeg = ci 1)) → pk (F_X12_saysIn_187 (cn (20 + x)) (cn g) (cn r) s) (se (fun v => ∃ r, r ≤ n ∧ v.1 = cn (20 + x) ∧ v.2.1 = cn g ∧ v.2.2.1 = cn r ∧ (∀ j, j ≠ 96 → v.2.2.2.1 j = z.1 j) ∧ LVf (z.1 89) f x (n - r) r = LV (z.1 89) f x) (fun τ => τ.1 = LV (z.1 89) f x ∧ ∀ j, j ≠ 96 → τ.2.1 j = z.1 j)) := fun s hs hn => by
      unfold F_X12_saysIn_187
      refine pk_some (show ∃ r, _ from ⟨r + 1, by omega, rfl, rfl, cnu (by omega), hs, ?_⟩)
      rw [← g5, step, if_neg hn]
    by_cases hw : z.1 89 (1033 + r) = cn (20 + x)
    · rw [if_pos hw]
      refine pk_b2 (V_isSo (n := n) hf g4 hnc (by omega) hTr) (fun v t k => ?_)
      obtain ⟨k1, k3⟩ := k
      by_cases hv : v = 0
      · rw [if_pos hv]
        exact no t k3 (fun h => (k1.mp hv) h.2)
      · rw [if_neg hv]
        have hy : z.1 89 (1017 + r) = z.1 89 (1001 + r) ∨ EVw (z.1 89) f (z.1 89 (1001 + r)).toNatClampNeg (z.1 89 (1017 + r)).toNatClampNeg = ci 1 := Classical.byContradiction (fun h => hv (k1.mpr h))
        have k3 : ∀ j, j ≠ 96 → t.1 j = z.1 j := k3
        rw [show c16 985 + cn r = cn (985 + r) from cn_add (a := 985) (by omega), show c16 1001 + cn r = cn (1001 + r) from cn_add (a := 1001) (by omega), cn_nat (n := 985 + r) (by omega), cn_nat (n := 1001 + r) (by omega), k3 89 (by decide), z1, z2]
        refine pk_nn (pk_nn ?_)
        refine pk_b2 (V_valR hf k3 hpq (by omega) z4) (fun v2 t2 k => ?_)
        obtain ⟨k4, _, k6⟩ := k
        have k4 : v2 = EVw (z.1 89) f p q := k4
        have e := clL_eq (s := t2) (v := v2)
        intro τ hτ
        obtain ⟨v31, h31, hτ⟩ := m_b1 hτ
        obtain ⟨v33, h33, hτ⟩ := m_b1 hτ
        rw [h31, b1_some, h33] at e
        have e := Option.some.inj e
        have hτ := Option.some.inj hτ
        subst hτ
        refine (show _ ∧ _ from ⟨?_, k6⟩)
        rw [e, k4, ← g5, step, if_pos ⟨hw, hy⟩]
    · rw [if_neg hw]
      exact no u g4 (fun h => hw h.1)
/-- the reference's row of facts, all but its last two -/
def SEr (D : Nat → Nat → Int32) (g : Nat) (hour pear : Int32) : Nat → Nat → Int32 := mu (mu (mu (mu (mu (mu (mu D 97 1 (cn g)) 97 2 (D 89 (119 + g))) 97 3 (D 89 (131 + g))) 97 4 (rm hour (c8 24))) 97 5 (hour / c8 24)) 97 6 pear) 97 7 (D 89 114)
theorem SEr_row {D : Nat → Nat → Int32} {g j : Nat} {hour pear : Int32} (h : j ≠ 97) : SEr D g hour pear j = D j := by
  unfold SEr
  rw [mu_row h, mu_row h, mu_row h, mu_row h, mu_row h, mu_row h, mu_row h]
theorem V_says {b : mG} {nc g x : Nat} {hour pear since : Int32} (hT : LTy nc (b.1 89)) (hg : g < 12) (hx : x < 6) : pk (F_X12_saysIn (cn (20 + x)) (cn g) hour pear since b) (fun τ => τ.1 = LV (b.1 89) (FAc (b.1 89) g hour pear since) x ∧ ∀ j, j ≠ 96 → j ≠ 97 → τ.2.1 j = b.1 j) := by
  unfold F_X12_saysIn
  dsimp only
  rw [show c8 119 + cn g = cn (119 + g) from cn_add (a := 119) (by omega), show c16 131 + cn g = cn (131 + g) from cn_add (a := 131) (by omega), cn_nat (n := 119 + g) (by omega), cn_nat (n := 131 + g) (by omega)]
  simp only [mu_row (show (89 : Nat) ≠ 97 by decide)]
  refine pk_nn (pk_nn ?_)
  refine pk_b1 (V_onB hg) (fun v11 hv => ?_)
  have hv : v11 = if SEr b.1 g hour pear 89 (15 + g) = ci (-1) then ci 0 else ci 1 := hv
  rw [SEr_row (by decide)] at hv
  have fin : ∀ y, y = (if b.1 89 (15 + g) = ci (-1) then ci 0 else ci 1) → pk (F_X12_saysIn_100 (cn (20 + x)) (cn g) since (c8 8) y (SEr b.1 g hour pear, b.2)) (fun τ => τ.1 = LV (b.1 89) (FAc (b.1 89) g hour pear since) x ∧ ∀ j, j ≠ 96 → j ≠ 97 → τ.2.1 j = b.1 j) := fun y hy => by
    unfold F_X12_saysIn_100
    rw [show c8 8 = cn 8 by decide, cn_nat (n := 8) (by decide)]
    refine pk_nn ?_
    dsimp only
    have r89 : ((mu (mu (SEr b.1 g hour pear) 97 8 y) 97 9 since, b.2) : mG).1 89 = b.1 89 := by
      show mu (mu (SEr b.1 g hour pear) 97 8 y) 97 9 since 89 = b.1 89
      rw [mu_row (by decide), mu_row (by decide)]
      exact SEr_row (by decide)
    have rj : ∀ j, j ≠ 97 → ((mu (mu (SEr b.1 g hour pear) 97 8 y) 97 9 since, b.2) : mG).1 j = b.1 j := fun j hj => (mu_row hj).trans ((mu_row hj).trans (SEr_row hj))
    have hf : ∀ j, 1 ≤ j → j < 10 → ((mu (mu (SEr b.1 g hour pear) 97 8 y) 97 9 since, b.2) : mG).1 97 j = FAc (b.1 89) g hour pear since j := fun j h1 h2 => by
      obtain ⟨i, rfl⟩ : ∃ i, j = i + 1 := ⟨j - 1, by omega⟩
      show mu (mu (SEr b.1 g hour pear) 97 8 y) 97 9 since 97 (i + 1) = _
      unfold SEr
      rcases lt9 (show i < 9 by omega) with e | e | e | e | e | e | e | e | e <;> subst e
      · exact (mu_cell (by decide)).trans ((mu_cell (by decide)).trans ((mu_cell (by decide)).trans ((mu_cell (by decide)).trans ((mu_cell (by decide)).trans ((mu_cell (by decide)).trans ((mu_cell (by decide)).trans ((mu_cell (by decide)).trans mu_same)))))))
      · exact (mu_cell (by decide)).trans ((mu_cell (by decide)).trans ((mu_cell (by decide)).trans ((mu_cell (by decide)).trans ((mu_cell (by decide)).trans ((mu_cell (by decide)).trans ((mu_cell (by decide)).trans mu_same))))))
      · exact (mu_cell (by decide)).trans ((mu_cell (by decide)).trans ((mu_cell (by decide)).trans ((mu_cell (by decide)).trans ((mu_cell (by decide)).trans ((mu_cell (by decide)).trans mu_same)))))
      · exact (mu_cell (by decide)).trans ((mu_cell (by decide)).trans ((mu_cell (by decide)).trans ((mu_cell (by decide)).trans ((mu_cell (by decide)).trans mu_same))))
      · exact (mu_cell (by decide)).trans ((mu_cell (by decide)).trans ((mu_cell (by decide)).trans ((mu_cell (by decide)).trans mu_same)))
      · exact (mu_cell (by decide)).trans ((mu_cell (by decide)).trans ((mu_cell (by decide)).trans mu_same))
      · exact (mu_cell (by decide)).trans ((mu_cell (by decide)).trans mu_same)
      · exact (mu_cell (by decide)).trans (mu_same.trans hy)
      · exact mu_same
    have q := V_saysL (f := FAc (b.1 89) g hour pear since) (z := (mu (mu (SEr b.1 g hour pear) 97 8 y) 97 9 since, b.2)) (nc := nc) (g := g) (x := x) (by rw [r89]; exact hT) hf (by rw [r89]; rfl) hg hx
    rw [r89] at q
    intro τ hτ
    obtain ⟨q1, q2⟩ := q τ hτ
    exact ⟨q1, fun j h1 h2 => (q2 j h1).trans (rj j h2)⟩
  by_cases h0 : v11 = 0
  · rw [if_pos h0]
    exact fin _ (by rw [← hv, h0, c0e0])
  · rw [if_neg h0]
    refine fin _ ?_
    by_cases hb : b.1 89 (15 + g) = ci (-1)
    · rw [if_pos hb] at hv
      exact absurd (hv.trans c0e0) h0
    · rw [if_neg hb]
theorem V_saysNow {b : mG} {nc g x : Nat} (hT : LTy nc (b.1 89)) (hg : g < 12) (hx : x < 6) : pk (F_X12_saysNow (cn (20 + x)) (cn g) b) (fun τ => τ.1 = LV (b.1 89) (FAc (b.1 89) g (b.1 89 0) (b.1 89 113) (b.1 89 (27 + g))) x ∧ ∀ j, j ≠ 96 → j ≠ 97 → τ.2.1 j = b.1 j) := by
  unfold F_X12_saysNow
  rw [show c8 27 + cn g = cn (27 + g) from cn_add (a := 27) (by omega), cn_nat (n := 27 + g) (by omega)]
  refine pk_nn (pk_b2 (V_says hT hg hx) (fun v u k => pk_some k))
end
