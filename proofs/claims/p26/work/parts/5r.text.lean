noncomputable section
/-! WHAT TEXT ANSWERS, and the fault that it leaves -/
theorem V_putsLaw {s : mG} : pk (F_X12_putsLaw s) (fun τ => τ.1 = s.1 88 12 ∧ τ.2.1 88 = s.1 88) := by
  unfold F_X12_putsLaw F_X12_putsLaw_L13
  refine pk_whl (fun v => v.2.1 88 = s.1 88) (mu_rowQ (by omega)) (fun v hv => ?_)
  obtain ⟨x1, u⟩ := v
  have hu : u.1 88 = s.1 88 := hv
  unfold F_X12_putsLaw_B13
  refine pk_ite ?_ ?_
  · refine pk_b1r ?_
    unfold F_X12_putsLaw_L107
    refine pk_whl (fun v => v.2.1 88 = s.1 88) hu (fun v hv => ?_)
    obtain ⟨x1, w⟩ := v
    have hw : w.1 88 = s.1 88 := hv
    unfold F_X12_putsLaw_B107
    exact pk_ite (pk_some ⟨congrFun hw 12, hw⟩) (pk_nn (pk_nn (pk_some ((mu_rowQ (by omega)).trans hw))))
  · refine pk_nn (pk_nn (pk_nn (pk_nn (pk_nn (pk_nn (pk_nn (pk_nn (pk_some (show _ = _ from ?_)))))))))
    dsimp only
    rw [mu_row (by decide), mu_row (by decide), mu_row (by decide), mu_row (by decide)]
    exact hu
theorem V_forgets {s : mG} : F_X12_forgets s = some (mu s.1 88 3 (ci 0), s.2) := rfl
theorem V_putsSigns {s : mG} : pk (F_X12_putsSigns s) (fun τ => τ.1 = s.1 88 14 ∧ ∀ c, c ≠ 3 → τ.2.1 88 c = s.1 88 c) := by
  unfold F_X12_putsSigns F_X12_putsSigns_L13
  refine pk_whl (fun v => v.2.1 88 = s.1 88) (mu_rowQ (by omega)) (fun v hv => ?_)
  obtain ⟨x1, u⟩ := v
  have hu : u.1 88 = s.1 88 := hv
  unfold F_X12_putsSigns_B13
  refine pk_ite ?_ ?_
  · refine pk_b1r ?_
    unfold F_X12_putsSigns_L47
    refine pk_whl (fun v => v.2.1 88 = s.1 88) hu (fun v hv => ?_)
    obtain ⟨x1, w⟩ := v
    have hw : w.1 88 = s.1 88 := hv
    unfold F_X12_putsSigns_B47
    rw [V_forgets, b1_some]
    exact pk_ite (pk_some ⟨by dsimp only; rw [mu_cell (by decide)]; exact congrFun hw 14, fun c hc => by dsimp only; rw [mu_cell (Or.inr hc)]; exact congrFun hw c⟩) (pk_nn (pk_some ((mu_rowQ (by omega)).trans hw)))
  · exact pk_nn (pk_nn (pk_some ((mu_rowQ (by omega)).trans hu)))
theorem V_putsShifts {s : mG} : pk (F_X12_putsShifts s) (fun τ => τ.1 = s.1 88 14 ∧ ∀ c, c ≠ 3 → τ.2.1 88 c = s.1 88 c) := by
  unfold F_X12_putsShifts F_X12_putsShifts_L13
  refine pk_whl (fun v => v.2.1 88 = s.1 88) (mu_rowQ (by omega)) (fun v hv => ?_)
  obtain ⟨x1, w⟩ := v
  have hw : w.1 88 = s.1 88 := hv
  unfold F_X12_putsShifts_B13
  rw [V_forgets, b1_some]
  exact pk_ite (pk_some ⟨by dsimp only; rw [mu_cell (by decide)]; exact congrFun hw 14, fun c hc => by dsimp only; rw [mu_cell (Or.inr hc)]; exact congrFun hw c⟩) (pk_nn (pk_nn (pk_some ((mu_rowQ (by omega)).trans hw))))
/-- what both answer to text, and which fault stands then -/
def TXT (τ υ : Int32 × mG) : Prop := τ.1 = υ.1 ∧ τ.2.1 55 9 = ci 0 ∧ υ.2.1 88 15 = ci 0 ∧ τ.2.1 55 10 = υ.2.1 88 22 ∧ τ.2.1 55 11 = υ.2.1 88 24
theorem S_text {T : Nat → Int32} {len : Nat} {a1 : Int32} {a b : mG} (hlen : len ≤ 400) (hB : ∀ k, k < len → 0 ≤ (T k).toInt ∧ (T k).toInt ≤ 255) (h64 : a.1 64 = T) (h9 : a.1 55 9 = cn len) (hsh : RS0 a) (h6 : TS 6 4 16 a) (h8 : TS 8 1 400 a) (h10 : TS 10 2 6 a) (h12 : TS 12 4 12 a) (h95 : ∀ k, k < len → b.1 95 k = T k) (h15 : b.1 88 15 = cn len) : rel (F_X11_text a1 a) (F_X12_text a1 b) TXT := by
  have hwi : wi a1 (ci 0) (ci 2) = 0 ∨ ∃ r, r < 3 ∧ a1 = cn r := by
    by_cases h : 0 ≤ a1.toInt ∧ a1.toInt ≤ 2
    · exact Or.inr ⟨a1.toInt.toNat, by omega, cnof h.1⟩
    · exact Or.inl (wi_out (by rw [show (ci 0).toInt = 0 by decide, show (ci 2).toInt = 2 by decide]; exact h))
  unfold F_X11_text F_X12_text
  dsimp only
  rw [F_isIn, b1_some]
  by_cases h0 : wi a1 (ci 0) (ci 2) = 0
  · rw [if_pos h0]
    have e : F_X7_readText a1 a = some (ci 0, (mu (mu a.1 55 10 (ci 0)) 55 11 (ci (-1)), a.2)) := by
      unfold F_X7_readText F_X7_readText_19
      by_cases hn : a1 < 0
      · rw [if_pos hn]
      · rw [if_neg hn]
        by_cases h2 : a1 ≤ ci 2
        · exfalso
          have q1 := t_nn hn
          have q2 := r_le rfl (by decide : (ci 2).toInt = 2) h2
          have e1 : wi a1 (ci 0) (ci 2) = ci 1 := wi_in (by rw [show (ci 0).toInt = 0 by decide]; exact q1) (by rw [show (ci 2).toInt = 2 by decide]; exact q2)
          exact absurd (e1.symm.trans h0) c1n0
        · rw [if_neg h2]
    rw [e, b2_some, if_pos c0e0]
    refine rel_some ⟨rfl, mu_sameQ, mu_sameQ, ?_, ?_⟩
    · exact ((mu_cellQ (by omega)).trans ((mu_cell (by omega)).trans mu_same)).trans ((mu_cellQ (by omega)).trans ((mu_cell (by omega)).trans mu_same)).symm
    · exact ((mu_cellQ (by omega)).trans mu_same).trans ((mu_cellQ (by omega)).trans mu_same).symm
  · rw [if_neg h0]
    obtain ⟨r, hr, e⟩ := hwi.resolve_left h0
    subst e
    -- the reference's state before its first token
    generalize hE : mu (mu (mu (mu (mu b.1 88 22 (ci 0)) 88 24 (ci (-1))) 88 20 (ci 0)) 88 16 (ci 0)) 88 11 (cn r) = E
    have e95 : ∀ k, k < len → ((E, b.2) : mG).1 95 k = T k := fun k hk => by
      show E 95 k = T k
      rw [← hE, mu_row (by omega), mu_row (by omega), mu_row (by omega), mu_row (by omega), mu_row (by omega)]; exact h95 k hk
    have e15 : ((E, b.2) : mG).1 88 15 = cn len := by
      show E 88 15 = _
      rw [← hE, mu_cell (by omega), mu_cell (by omega), mu_cell (by omega), mu_cell (by omega), mu_cell (by omega)]; exact h15
    have e11 : ((E, b.2) : mG).1 88 11 = cn r ∧ ((E, b.2) : mG).1 88 22 = ci 0 ∧ ((E, b.2) : mG).1 88 24 = ci (-1) := by
      show E 88 11 = _ ∧ E 88 22 = _ ∧ E 88 24 = _
      rw [← hE]
      refine ⟨mu_same, ?_, ?_⟩
      · rw [mu_cell (by omega), mu_cell (by omega), mu_cell (by omega), mu_cell (by omega), mu_same]
      · rw [mu_cell (by omega), mu_cell (by omega), mu_cell (by omega), mu_same]
    have e16 : ((E, b.2) : mG).1 88 16 = cn 0 := by
      show E 88 16 = _
      rw [← hE, mu_cell (by omega), mu_same]; rfl
    have body : ∀ X : mG, (b1 (F_X12_next0 X) fun s11 => if cn r = 0 then b2 (F_X12_readsLaw s11) fun v15 s14 => F_X12_text_60 (cn r) v15 s14 else b2 (F_X12_readsRows s11) fun v33 s32 => F_X12_text_60 (cn r) v33 s32) = b2 (refBody (cn r) X) fun v s => F_X12_text_60 (cn r) v s := fun X => by
      unfold refBody
      rw [b2_b1]
      congr 1
      funext s11
      rw [b2_if]
    try dsimp only
    rw [body]
    clear hE
    have hq := S_read hr hlen hB h64 h9 hsh e95 e15 e11 e16
    intro τ hτ υ hυ
    obtain ⟨v3, s2, e3, hτ⟩ := m_b2 hτ
    obtain ⟨w3, t2, f3, hυ⟩ := m_b2 hυ
    have hw := W_X7_readText (M := 276665132308624310272) (z := a) sub_rfl KB_rfl (v3, s2) e3
    have hw : KB 276665132308624310272 a s2 := hw
    have wr := KB_rng hw (a := 0) (n := 55) (by decide +kernel)
    obtain ⟨q1, q2, q3, q4⟩ := hq (v3, s2) e3 (w3, t2) f3
    have q1 : v3 = w3 := q1
    unfold F_X12_text_60 at hυ
    by_cases hv : v3 = 0
    · rw [if_pos hv] at hτ
      rw [if_pos (q1 ▸ hv)] at hυ
      cases hτ; cases hυ
      have f := q3 hv
      refine ⟨rfl, mu_sameQ, ?_, ?_, ?_⟩
      · try dsimp only
        exact (mu_cell (by decide)).trans ((mu_cell (by decide)).trans mu_same)
      · try dsimp only
        exact ((mu_cell (by decide)).trans f.1).trans (((mu_cell (by decide)).trans (mu_same.trans (mu_cell (by decide)))).symm)
      · try dsimp only
        exact ((mu_cell (by decide)).trans f.2).trans ((mu_same.trans ((mu_cell (by decide)).trans (mu_cell (by decide)))).symm)
    · rw [if_neg hv] at hτ
      rw [if_neg (fun e => hv (q1.trans e))] at hυ
      obtain ⟨z1, z2, m, B, i0, i1, i2⟩ := q4 hv
      have z1 : s2.1 55 10 = ci 0 := z1
      have z2 : s2.1 55 11 = ci (-1) := z2
      have row4 : ∀ j, j < 55 → ((mu s2.1 55 9 (ci 0), s2.2) : mG).1 j = a.1 j := fun j hj => (mu_rowQ (by omega)).trans (wr j (by omega) (by omega))
      have e : r = 0 ∨ r = 1 ∨ r = 2 := by omega
      rcases e with e | e | e
      · subst e
        obtain ⟨nc, L, hSX, hLL⟩ := i0 rfl
        obtain ⟨y1, y2, y3, y4⟩ := hSX
        obtain ⟨l0, l1, l2, l3, l4, l5⟩ := hLL
        have ncb : nc ≤ 400 := by have := y1.2.1; have := y1.1.1; omega
        rw [if_pos (by decide)] at hτ hυ
        try dsimp only at hτ
        obtain ⟨s8, e8, hτ⟩ := m_b1 hτ
        obtain ⟨s10, e10, hτ⟩ := m_b1 hτ
        cases hτ
        obtain ⟨v23, s22, e22, hυ⟩ := m_b2 hυ
        cases hυ
        obtain ⟨c1, c2, c3, c4, c5, c6⟩ := V_copy (t := 6) (a := 56) (n := L) (m := 16) (W := 4) (by omega) (by rw [row4 6 (by omega)]; exact h6.1) (by exact (congrFun (mu_rowQ (by omega)) 3).trans l3) (by rw [row4 6 (by omega)]; exact h6.2.1) l0 (by decide) (by rw [show m_alen (6 + 1) = 64 by decide +kernel]; omega) (by rw [show m_alen (56 + 1) = 64 by decide +kernel]; omega) (by decide) s8 e8
        have d := V_copyF s10 e10
        obtain ⟨p1, p2⟩ := V_putsLaw (v23, s22) e22
        have p1 : v23 = mu t2.1 88 15 (ci 0) 88 12 := p1
        have p2 : s22.1 88 = mu t2.1 88 15 (ci 0) 88 := p2
        have r55 : s10.1 55 = mu s2.1 55 9 (ci 0) 55 := (d 55 (by omega) (by omega)).trans (c2 55 (by omega) (by omega))
        refine ⟨?_, ?_, ?_, ?_, ?_⟩
        · show s10.1 6 3 = v23
          rw [d 6 (by omega) (by omega), c4, p1, mu_cell (by omega)]
          exact ((congrFun (mu_rowQ (by omega)) 3).trans l3).trans l4.symm
        · show s10.1 55 9 = _
          rw [r55, mu_same]
        · show s22.1 88 15 = _
          rw [p2, mu_same]
        · show s10.1 55 10 = s22.1 88 22
          rw [r55, p2, mu_cell (by omega), mu_cell (by omega), z1]
          exact y2.2.2.1.2.1.symm
        · show s10.1 55 11 = s22.1 88 24
          rw [r55, p2, mu_cell (by omega), mu_cell (by omega), z2]
          exact y2.2.2.1.2.2.symm
      · subst e
        obtain ⟨y1, y2, R, l0, l1, l2, l3, l4, l5⟩ := i1 rfl
        rw [if_neg (by decide)] at hτ hυ
        unfold F_X5_forget at hτ
        try dsimp only at hτ
        rw [b1_some, if_pos (by decide)] at hτ
        rw [if_pos (by decide)] at hυ
        obtain ⟨s15, e15', hτ⟩ := m_b1 hτ
        obtain ⟨s17, e17, hτ⟩ := m_b1 hτ
        cases hτ
        obtain ⟨v27, s26, e26, hυ⟩ := m_b2 hυ
        cases hυ
        have x10 : ((mu (mu s2.1 55 9 (ci 0)) 35 1 (ci 0), s2.2) : mG).1 10 = a.1 10 := (mu_rowQ (by omega)).trans (row4 10 (by omega))
        obtain ⟨c1, c2, c3, c4, c5, c6⟩ := V_copy (t := 10) (a := 60) (n := R) (m := 6) (W := 2) (by omega) (by rw [x10]; exact h10.1) (by exact (congrFun ((mu_rowQ (by omega)).trans (mu_row (by omega))) 3).trans l3) (by rw [x10]; exact h10.2.1) l0 (by decide) (by rw [show m_alen (10 + 1) = 12 by decide +kernel]; omega) (by rw [show m_alen (60 + 1) = 12 by decide +kernel]; omega) (by decide) s15 e15'
        have d := W_X2_forgetSeen (M := 8) (z := s15) (sub_and (by decide)) (by decide) KB_rfl s17 e17
        have d : KB 8 s15 s17 := d
        obtain ⟨p1, p2⟩ := V_putsSigns (v27, s26) e26
        have p1 : v27 = mu t2.1 88 15 (ci 0) 88 14 := p1
        have p2 : ∀ c, c ≠ 3 → s26.1 88 c = mu t2.1 88 15 (ci 0) 88 c := p2
        have r55 : s17.1 55 = mu s2.1 55 9 (ci 0) 55 := (d 55 (by decide +kernel)).trans ((c2 55 (by omega) (by omega)).trans (mu_rowQ (by omega)))
        refine ⟨?_, ?_, ?_, ?_, ?_⟩
        · show s17.1 10 3 = v27
          rw [d 10 (by decide +kernel), c4, p1, mu_cell (by omega)]
          exact ((congrFun ((mu_rowQ (by omega)).trans (mu_row (by omega))) 3).trans l3).trans l4.symm
        · show s17.1 55 9 = _
          rw [r55, mu_same]
        · show s26.1 88 15 = _
          rw [p2 15 (by omega), mu_same]
        · show s17.1 55 10 = s26.1 88 22
          rw [r55, p2 22 (by omega), mu_cell (by omega), mu_cell (by omega), z1]
          exact y2.2.2.1.2.1.symm
        · show s17.1 55 11 = s26.1 88 24
          rw [r55, p2 24 (by omega), mu_cell (by omega), mu_cell (by omega), z2]
          exact y2.2.2.1.2.2.symm
      · subst e
        obtain ⟨y1, y2, R, l0, l1, l2, l3, l4, l5⟩ := i2 rfl
        rw [if_neg (by decide)] at hτ hυ
        unfold F_X5_forget at hτ
        try dsimp only at hτ
        rw [b1_some, if_neg (by decide)] at hτ
        rw [if_neg (by decide)] at hυ
        obtain ⟨s15, e15', hτ⟩ := m_b1 hτ
        cases hτ
        obtain ⟨v27, s26, e26, hυ⟩ := m_b2 hυ
        cases hυ
        have x12 : ((mu (mu s2.1 55 9 (ci 0)) 35 1 (ci 0), s2.2) : mG).1 12 = a.1 12 := (mu_rowQ (by omega)).trans (row4 12 (by omega))
        obtain ⟨c1, c2, c3, c4, c5, c6⟩ := V_copy (t := 12) (a := 62) (n := R) (m := 12) (W := 4) (by omega) (by rw [x12]; exact h12.1) (by exact (congrFun ((mu_rowQ (by omega)).trans (mu_row (by omega))) 3).trans l3) (by rw [x12]; exact h12.2.1) l0 (by decide) (by rw [show m_alen (12 + 1) = 48 by decide +kernel]; omega) (by rw [show m_alen (62 + 1) = 48 by decide +kernel]; omega) (by decide) s15 e15'
        obtain ⟨p1, p2⟩ := V_putsShifts (v27, s26) e26
        have p1 : v27 = mu t2.1 88 15 (ci 0) 88 14 := p1
        have p2 : ∀ c, c ≠ 3 → s26.1 88 c = mu t2.1 88 15 (ci 0) 88 c := p2
        have r55 : s15.1 55 = mu s2.1 55 9 (ci 0) 55 := (c2 55 (by omega) (by omega)).trans (mu_rowQ (by omega))
        refine ⟨?_, ?_, ?_, ?_, ?_⟩
        · show s15.1 12 3 = v27
          rw [c4, p1, mu_cell (by omega)]
          exact ((congrFun ((mu_rowQ (by omega)).trans (mu_row (by omega))) 3).trans l3).trans l4.symm
        · show s15.1 55 9 = _
          rw [r55, mu_same]
        · show s26.1 88 15 = _
          rw [p2 15 (by omega), mu_same]
        · show s15.1 55 10 = s26.1 88 22
          rw [r55, p2 22 (by omega), mu_cell (by omega), mu_cell (by omega), z1]
          exact y2.2.2.1.2.1.symm
        · show s15.1 55 11 = s26.1 88 24
          rw [r55, p2 24 (by omega), mu_cell (by omega), mu_cell (by omega), z2]
          exact y2.2.2.1.2.2.symm
end
