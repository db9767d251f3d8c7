noncomputable section
/-! TEXT, on both sides: what stands then -/
theorem R_text {T : Nat → Int32} {len : Nat} {a1 : Int32} {a b : mG} (h : SIM a b) (hlen : len ≤ 400) (hB : ∀ k, k < len → 0 ≤ (T k).toInt ∧ (T k).toInt ≤ 255) (h64 : a.1 64 = T) (h9 : a.1 55 9 = cn len) (hsh : RS0 a) (h95 : ∀ k, k < len → b.1 95 k = T k) (h15 : b.1 88 15 = cn len) : rel (F_X11_text a1 a) (F_X12_text a1 b) (fun τ υ => SIM τ.2 υ.2) := by
  obtain ⟨n, nb, nc0, hn, hnb, e2, e4, e8, H, L0, V⟩ := h.1
  have sh := HSr_SH H
  have hwi : wi a1 (ci 0) (ci 2) = 0 ∨ ∃ r, r < 3 ∧ a1 = cn r := by
    by_cases h : 0 ≤ a1.toInt ∧ a1.toInt ≤ 2
    · exact Or.inr ⟨a1.toInt.toNat, by omega, cnof h.1⟩
    · exact Or.inl (wi_out (by rw [show (ci 0).toInt = 0 by decide, show (ci 2).toInt = 2 by decide]; exact h))
  unfold F_X11_text F_X12_text
  dsimp only
  rw [F_isIn, b1_some]
  by_cases h0 : wi a1 (ci 0) (ci 2) = 0
  · rw [if_pos h0]
    have e : F_X7_readText a1 a = some (ci 0, (mu (mu a.1 55 10 (ci 0)) 55 11 (ci (-1)), a.2)) := by
      unfold F_X7_readText F_X7_readText_19
      by_cases hn : a1 < 0
      · rw [if_pos hn]
      · rw [if_neg hn]
        by_cases h2 : a1 ≤ ci 2
        · exfalso
          have q1 := t_nn hn
          have q2 := r_le rfl (by decide : (ci 2).toInt = 2) h2
          have e1 : wi a1 (ci 0) (ci 2) = ci 1 := wi_in (by rw [show (ci 0).toInt = 0 by decide]; exact q1) (by rw [show (ci 2).toInt = 2 by decide]; exact q2)
          exact absurd (e1.symm.trans h0) c1n0
        · rw [if_neg h2]
    rw [e, b2_some, if_pos c0e0]
    refine rel_some (SIM_same h (fun j hj => ?_) ?_ ?_ ?_ ?_ ?_)
    all_goals dsimp only
    · rw [mu_row (by omega), mu_row (by omega), mu_row (by omega)]
    · rw [mu_row (by decide), mu_row (by decide), mu_row (by decide)]
    · rw [mu_row (by decide), mu_row (by decide), mu_row (by decide)]
    · rw [mu_row (by decide), mu_row (by decide), mu_row (by decide)]
    · rw [mu_cell (by decide), mu_cell (by decide), mu_cell (by decide)]
    · rw [mu_cell (by decide), mu_cell (by decide), mu_cell (by decide)]
  · rw [if_neg h0]
    obtain ⟨r, hr, e⟩ := hwi.resolve_left h0
    subst e
    generalize hE : mu (mu (mu (mu (mu b.1 88 22 (ci 0)) 88 24 (ci (-1))) 88 20 (ci 0)) 88 16 (ci 0)) 88 11 (cn r) = E
    have rE : ∀ j, j ≠ 88 → E j = b.1 j := fun j hj => by
      rw [← hE, mu_row hj, mu_row hj, mu_row hj, mu_row hj, mu_row hj]
    have cE : ∀ c, c < 11 → E 88 c = b.1 88 c := fun c hc => by
      rw [← hE, mu_cell (Or.inr (by omega)), mu_cell (Or.inr (by omega)), mu_cell (Or.inr (by omega)), mu_cell (Or.inr (by omega)), mu_cell (Or.inr (by omega))]
    have e95 : ∀ k, k < len → ((E, b.2) : mG).1 95 k = T k := fun k hk => by
      show E 95 k = T k
      rw [rE 95 (by decide)]; exact h95 k hk
    have e15 : E 88 15 = cn len := by
      rw [← hE, mu_cell (by omega), mu_cell (by omega), mu_cell (by omega), mu_cell (by omega), mu_cell (by omega)]; exact h15
    have e11 : ((E, b.2) : mG).1 88 11 = cn r ∧ ((E, b.2) : mG).1 88 22 = ci 0 ∧ ((E, b.2) : mG).1 88 24 = ci (-1) := by
      show E 88 11 = _ ∧ E 88 22 = _ ∧ E 88 24 = _
      rw [← hE]
      refine ⟨mu_same, ?_, ?_⟩
      · rw [mu_cell (by omega), mu_cell (by omega), mu_cell (by omega), mu_cell (by omega), mu_same]
      · rw [mu_cell (by omega), mu_cell (by omega), mu_cell (by omega), mu_same]
    have e16 : E 88 16 = cn 0 := by
      rw [← hE, mu_cell (by omega), mu_same]; rfl
    have body : ∀ X : mG, (b1 (F_X12_next0 X) fun s11 => if cn r = 0 then b2 (F_X12_readsLaw s11) fun v15 s14 => F_X12_text_60 (cn r) v15 s14 else b2 (F_X12_readsRows s11) fun v33 s32 => F_X12_text_60 (cn r) v33 s32) = b2 (refBody (cn r) X) fun v s => F_X12_text_60 (cn r) v s := fun X => by
      unfold refBody
      rw [b2_b1]
      congr 1
      funext s11
      rw [b2_if]
    try dsimp only
    rw [body]
    clear hE
    have hq := S_read hr hlen hB h64 h9 hsh e95 e15 e11 e16
    intro τ hτ υ hυ
    obtain ⟨v3, s2, e3, hτ⟩ := m_b2 hτ
    obtain ⟨w3, t2, f3, hυ⟩ := m_b2 hυ
    have hw := W_X7_readText (M := 276665132308624310272) (z := a) sub_rfl KB_rfl (v3, s2) e3
    have hw : KB 276665132308624310272 a s2 := hw
    have wr := KB_rng hw (a := 0) (n := 55) (by decide +kernel)
    obtain ⟨q1, q2, q3, q4⟩ := hq (v3, s2) e3 (w3, t2) f3
    have q1 : v3 = w3 := q1
    obtain ⟨fr, fr3, fr4, frL⟩ := V_refBody hr hlen e15 e16 f3
    have g3 : t2.1 88 3 = b.1 88 3 := fr3.trans (cE 3 (by decide))
    have g4 : t2.1 88 4 = b.1 88 4 := fr4.trans (cE 4 (by decide))
    have g89 : t2.1 89 = b.1 89 := (fr 89 (by decide) (by decide)).trans (rE 89 (by decide))
    have g90 : t2.1 90 = b.1 90 := (fr 90 (by decide) (by decide)).trans (rE 90 (by decide))
    have g91 : t2.1 91 = b.1 91 := (fr 91 (by decide) (by decide)).trans (rE 91 (by decide))
    unfold F_X12_text_60 at hυ
    have row4 : ∀ j, j < 55 → ((mu s2.1 55 9 (ci 0), s2.2) : mG).1 j = a.1 j := fun j hj => (mu_rowQ (by omega)).trans (wr j (by omega) (by omega))
    by_cases hv : v3 = 0
    · rw [if_pos hv] at hτ
      rw [if_pos (q1 ▸ hv)] at hυ
      have hτ := Option.some.inj hτ
      have hυ := Option.some.inj hυ
      subst hτ; subst hυ
      refine SIM_same h (fun j hj => row4 j hj) ?_ ?_ ?_ ?_ ?_
      all_goals dsimp only
      · rw [mu_row (by decide), mu_row (by decide), mu_row (by decide)]; exact g89
      · rw [mu_row (by decide), mu_row (by decide), mu_row (by decide)]; exact g90
      · rw [mu_row (by decide), mu_row (by decide), mu_row (by decide)]; exact g91
      · rw [mu_cell (by decide), mu_cell (by decide), mu_cell (by decide)]; exact g3
      · rw [mu_cell (by decide), mu_cell (by decide), mu_cell (by decide)]; exact g4
    · rw [if_neg hv] at hτ
      have hw3 : ¬ w3 = 0 := fun e => hv (q1.trans e)
      rw [if_neg hw3] at hυ
      obtain ⟨z1, z2, m, B, i0, i1, i2⟩ := q4 hv
      have u15 : ∀ j, j ≠ 88 → ((mu t2.1 88 15 (ci 0), t2.2) : mG).1 j = t2.1 j := fun j hj => mu_rowQ hj
      have c15 : ∀ c, c ≠ 15 → ((mu t2.1 88 15 (ci 0), t2.2) : mG).1 88 c = t2.1 88 c := fun c hc => mu_cellQ (Or.inr hc)
      have e : r = 0 ∨ r = 1 ∨ r = 2 := by omega
      rcases e with e | e | e
      · subst e
        obtain ⟨nc, L, hSX, hLL⟩ := i0 rfl
        obtain ⟨y1, y2, y3, y4⟩ := hSX
        obtain ⟨l0, l1, l2, l3, l4, l5⟩ := hLL
        obtain ⟨⟨x0, x1⟩, x3, x13, xE, _⟩ := y3
        have ncb : nc ≤ 400 := by have := y1.2.1; have := y1.1.1; omega
        rw [if_pos (by decide)] at hτ hυ
        try dsimp only at hτ
        obtain ⟨s8, e8', hτ⟩ := m_b1 hτ
        obtain ⟨s10, e10, hτ⟩ := m_b1 hτ
        have hτ := Option.some.inj hτ
        subst hτ
        obtain ⟨v23, s22, e22, hυ⟩ := m_b2 hυ
        have hυ := Option.some.inj hυ
        subst hυ
        have m55 : ∀ j, j ≠ 55 → ((mu s2.1 55 9 (ci 0), s2.2) : mG).1 j = s2.1 j := fun j hj => mu_rowQ hj
        obtain ⟨c1, c2, c3, c4, c5, c6⟩ := V_copy (t := 6) (a := 56) (n := L) (m := 16) (W := 4) (by omega) (by rw [row4 6 (by omega)]; exact sh.2.2.1.1) (by rw [m55 56 (by decide)]; exact l3) (by rw [row4 6 (by omega)]; exact sh.2.2.1.2.1) l0 (by decide) (by rw [show m_alen (6 + 1) = 64 by decide +kernel]; omega) (by rw [show m_alen (56 + 1) = 64 by decide +kernel]; omega) (by decide) s8 e8'
        have s88 : s8.1 8 = a.1 8 := (c2 8 (by omega) (by omega)).trans (row4 8 (by omega))
        have s858 : s8.1 58 = s2.1 58 := (c2 58 (by omega) (by omega)).trans (m55 58 (by decide))
        have s859 : s8.1 59 = s2.1 59 := (c2 59 (by omega) (by omega)).trans (m55 59 (by decide))
        obtain ⟨d1, d2, d3, d4, d5, d6⟩ := V_copy (t := 8) (a := 58) (n := nc) (m := 400) (W := 1) (by omega) (by rw [s88]; exact sh.2.2.2.1.1) (by rw [s858]; exact x3) (by rw [s88]; exact sh.2.2.2.1.2.1) ncb (by decide) (by rw [show m_alen (8 + 1) = 400 by decide +kernel]; omega) (by rw [show m_alen (58 + 1) = 400 by decide +kernel]; omega) (by decide) s10 e10
        have hl12 : ((mu t2.1 88 15 (ci 0), t2.2) : mG).1 88 12 = cn L := (c15 12 (by decide)).trans l4
        have hl13 : ((mu t2.1 88 15 (ci 0), t2.2) : mG).1 88 13 = cn nc := (c15 13 (by decide)).trans (by simpa using x13)
        obtain ⟨p1, w, pw, p2, p3⟩ := E_putsLaw l0 ncb hl12 hl13 (v23, s22) e22
        obtain ⟨pr, p117, pc, po⟩ := pw
        have p2 : ∀ j, j ≠ 89 → s22.1 j = ((mu t2.1 88 15 (ci 0), t2.2) : mG).1 j := p2
        have p3 : s22.1 89 = ovr 1050 (2 * nc) (((mu t2.1 88 15 (ci 0), t2.2) : mG).1 93) (w.1 89) := p3
        have r93 : ((mu t2.1 88 15 (ci 0), t2.2) : mG).1 93 = t2.1 93 := u15 93 (by decide)
        have r92 : ((mu t2.1 88 15 (ci 0), t2.2) : mG).1 92 = t2.1 92 := u15 92 (by decide)
        rw [r93] at p3
        have hls := frL rfl hw3
        refine SIM_law (u := s10) (t := s22) (L := L) (nc := nc) (cc := s2.1 57) (dd := t2.1 92) (ee := s2.1 59) (ff := t2.1 93) h l0 ncb (fun j hj a1 a2 a3 a4 => ?_) (fun c hc => ?_) ?_ (fun j hj => ?_) (fun c hc => ?_) ?_ (fun j hj => ?_) l5 xE ?_ (fun j hj => ?_) (fun j hj => ?_) (fun k hk1 hk2 => ?_) (fun i hi => ?_) ?_ ?_ ?_ ?_
        · rw [d2 j a3 a4, c2 j a1 a2, row4 j hj]
        · rw [d2 6 (by decide) (by decide), c3 c hc, row4 6 (by decide)]
        · rw [d2 6 (by decide) (by decide), c4, m55 56 (by decide)]; exact l3
        · rw [d2 7 (by decide) (by decide)]
          exact (c5 j hj).trans (congrFun (m55 57 (by decide)) j)
        · rw [d3 c hc, s88]
        · rw [d4, s858]; exact x3
        · exact (d5 j hj).trans (congrFun s859 j)
        · rw [p3, ovr_lo (by omega)]; exact p117
        · obtain ⟨z1, z2, z3, z4⟩ := pc j hj
          rw [r92] at z1 z2 z3 z4
          rw [p3, ovr_lo (by omega), ovr_lo (by omega), ovr_lo (by omega), ovr_lo (by omega)]
          exact ⟨z1, z2, z3, z4⟩
        · rw [p3, ovr_in hj]
        · rw [p3, ovr_lo (by omega), po k hk1 (by omega), u15 89 (by decide), g89]
        · obtain ⟨_, w2, w4, w5⟩ := hls
          have tl : (t2.1 88 12).toInt = (L : Int) := by rw [l4]; exact t_cn (by omega)
          obtain ⟨x, y, c, o1, o2, o3, o4, o5, o6, o7, o8⟩ := w5 i (by omega)
          have tn : (t2.1 88 13).toInt = (nc : Int) := by
            rw [show t2.1 88 13 = cn nc by simpa using x13]
            exact t_cn (by omega)
          exact ⟨x, y, c, o2, o3, by omega, o4, o5, o6, o7, o8⟩
        · exact (p2 90 (by decide)).trans ((u15 90 (by decide)).trans g90)
        · exact (p2 91 (by decide)).trans ((u15 91 (by decide)).trans g91)
        · exact (congrFun (p2 88 (by decide)) 3).trans ((c15 3 (by decide)).trans g3)
        · exact (congrFun (p2 88 (by decide)) 4).trans ((c15 4 (by decide)).trans g4)
      · subst e
        obtain ⟨y1, y2, R, l0, l1, l2, l3, l4, l5⟩ := i1 rfl
        rw [if_neg (by decide)] at hτ hυ
        unfold F_X5_forget at hτ
        try dsimp only at hτ
        rw [b1_some, if_pos (by decide)] at hτ
        rw [if_pos (by decide)] at hυ
        obtain ⟨s15, e15', hτ⟩ := m_b1 hτ
        obtain ⟨s17, e17, hτ⟩ := m_b1 hτ
        have hτ := Option.some.inj hτ
        subst hτ
        obtain ⟨v27, s26, e26, hυ⟩ := m_b2 hυ
        have hυ := Option.some.inj hυ
        subst hυ
        have x35 : ∀ j, j ≠ 35 → j < 55 → ((mu (mu s2.1 55 9 (ci 0)) 35 1 (ci 0), s2.2) : mG).1 j = a.1 j := fun j h1 h2 => (mu_rowQ h1).trans (row4 j h2)
        have x6 : ∀ j, j ≠ 35 → j ≠ 55 → ((mu (mu s2.1 55 9 (ci 0)) 35 1 (ci 0), s2.2) : mG).1 j = s2.1 j := fun j h1 h2 => (mu_rowQ h1).trans (mu_row h2)
        have y35 : ((mu (mu s2.1 55 9 (ci 0)) 35 1 (ci 0), s2.2) : mG).1 35 1 = ci 0 := mu_sameQ
        have y36 : ((mu (mu s2.1 55 9 (ci 0)) 35 1 (ci 0), s2.2) : mG).1 35 2 = a.1 35 2 := (mu_cellQ (by decide)).trans (congrFun (row4 35 (by decide)) 2)
        generalize ((mu (mu s2.1 55 9 (ci 0)) 35 1 (ci 0), s2.2) : mG) = s0' at *
        obtain ⟨c1, c2, c3, c4, c5, c6⟩ := V_copy (t := 10) (a := 60) (n := R) (m := 6) (W := 2) (by omega) (by rw [x35 10 (by decide) (by decide)]; exact sh.2.2.2.2.1.1) (by rw [x6 60 (by decide) (by decide)]; exact l3) (by rw [x35 10 (by decide) (by decide)]; exact sh.2.2.2.2.1.2.1) l0 (by decide) (by rw [show m_alen (10 + 1) = 12 by decide +kernel]; omega) (by rw [show m_alen (60 + 1) = 12 by decide +kernel]; omega) (by decide) s15 e15'
        have s152 : s15.1 2 = a.1 2 := (c2 2 (by decide) (by decide)).trans (x35 2 (by decide) (by decide))
        obtain ⟨d1, d2⟩ := V_forgetSeenE (n := n) (by rw [s152]; exact sh.1.2.1) (by rw [s152]; exact e2) hn s17 e17
        have hl14 : ((mu t2.1 88 15 (ci 0), t2.2) : mG).1 88 14 = cn R := (c15 14 (by decide)).trans l4
        obtain ⟨p1, p2, p3, p4, p5⟩ := E_putsSigns l0 hl14 (v27, s26) e26
        have p2 : ∀ j, j ≠ 88 → j ≠ 89 → s26.1 j = ((mu t2.1 88 15 (ci 0), t2.2) : mG).1 j := p2
        have p3 : ∀ c, c ≠ 3 → s26.1 88 c = ((mu t2.1 88 15 (ci 0), t2.2) : mG).1 88 c := p3
        have p5 : s26.1 89 = ovr 39 72 (fun _ => ci (-1)) (ovr 143 (2 * R) (((mu t2.1 88 15 (ci 0), t2.2) : mG).1 94) (mu ((mu t2.1 88 15 (ci 0), t2.2) : mG).1 89 115 (cn R) 89)) := p5
        have e89 : mu ((mu t2.1 88 15 (ci 0), t2.2) : mG).1 89 115 (cn R) 89 = mu b.1 89 115 (cn R) 89 := by
          funext k
          rw [mu_ap, mu_ap, u15 89 (by decide), g89]
        rw [e89, u15 94 (by decide)] at p5
        refine SIM_signs (u := s17) (t := s26) (R := R) (cc := t2.1 94) h l0 (fun j hj a1 a2 a3 a4 => ?_) (fun c hc => ?_) ?_ (fun j hj => ?_) ?_ ?_ (fun n' hn' e2' r c hr hc => ?_) p4 ?_ ?_ p5
        · rw [d1 j a1, c2 j a2 a3, x35 j a4 hj]
        · rw [d1 10 (by decide), c3 c hc, x35 10 (by decide) (by decide)]
        · rw [d1 10 (by decide), c4, x6 60 (by decide) (by decide)]; exact l3
        · rw [d1 11 (by decide)]
          exact (c5 j hj).trans ((congrFun (x6 61 (by decide) (by decide)) j).trans (l5 j (by omega)))
        · rw [d1 35 (by decide), c2 35 (by decide) (by decide)]; exact y35
        · rw [d1 35 (by decide), c2 35 (by decide) (by decide)]; exact y36
        · have en : n' = n := (cn_inj (by omega) (by omega)).mp (e2'.symm.trans e2)
          rw [d2 r c (by omega) hc, c2 3 (by decide) (by decide), x35 3 (by decide) (by decide)]
        · exact (p3 4 (by decide)).trans ((c15 4 (by decide)).trans g4)
        · exact (p2 90 (by decide) (by decide)).trans ((u15 90 (by decide)).trans g90)
      · subst e
        obtain ⟨y1, y2, R, l0, l1, l2, l3, l4, l5⟩ := i2 rfl
        rw [if_neg (by decide)] at hτ hυ
        unfold F_X5_forget at hτ
        try dsimp only at hτ
        rw [b1_some, if_neg (by decide)] at hτ
        rw [if_neg (by decide)] at hυ
        obtain ⟨s15, e15', hτ⟩ := m_b1 hτ
        have hτ := Option.some.inj hτ
        subst hτ
        obtain ⟨v27, s26, e26, hυ⟩ := m_b2 hυ
        have hυ := Option.some.inj hυ
        subst hυ
        have x35 : ∀ j, j ≠ 35 → j < 55 → ((mu (mu s2.1 55 9 (ci 0)) 35 1 (ci 0), s2.2) : mG).1 j = a.1 j := fun j h1 h2 => (mu_rowQ h1).trans (row4 j h2)
        have x6 : ∀ j, j ≠ 35 → j ≠ 55 → ((mu (mu s2.1 55 9 (ci 0)) 35 1 (ci 0), s2.2) : mG).1 j = s2.1 j := fun j h1 h2 => (mu_rowQ h1).trans (mu_row h2)
        have y35 : ((mu (mu s2.1 55 9 (ci 0)) 35 1 (ci 0), s2.2) : mG).1 35 1 = ci 0 := mu_sameQ
        have y36 : ((mu (mu s2.1 55 9 (ci 0)) 35 1 (ci 0), s2.2) : mG).1 35 2 = a.1 35 2 := (mu_cellQ (by decide)).trans (congrFun (row4 35 (by decide)) 2)
        generalize ((mu (mu s2.1 55 9 (ci 0)) 35 1 (ci 0), s2.2) : mG) = s0' at *
        obtain ⟨c1, c2, c3, c4, c5, c6⟩ := V_copy (t := 12) (a := 62) (n := R) (m := 12) (W := 4) (by omega) (by rw [x35 12 (by decide) (by decide)]; exact sh.2.2.2.2.2.1.1) (by rw [x6 62 (by decide) (by decide)]; exact l3) (by rw [x35 12 (by decide) (by decide)]; exact sh.2.2.2.2.2.1.2.1) l0 (by decide) (by rw [show m_alen (12 + 1) = 48 by decide +kernel]; omega) (by rw [show m_alen (62 + 1) = 48 by decide +kernel]; omega) (by decide) s15 e15'
        have hl14 : ((mu t2.1 88 15 (ci 0), t2.2) : mG).1 88 14 = cn R := (c15 14 (by decide)).trans l4
        obtain ⟨p1, p2, p3, p4, p5⟩ := E_putsShifts l0 hl14 (v27, s26) e26
        have p2 : ∀ j, j ≠ 88 → j ≠ 89 → s26.1 j = ((mu t2.1 88 15 (ci 0), t2.2) : mG).1 j := p2
        have p3 : ∀ c, c ≠ 3 → s26.1 88 c = ((mu t2.1 88 15 (ci 0), t2.2) : mG).1 88 c := p3
        have p5 : s26.1 89 = ovr 155 (4 * R) (((mu t2.1 88 15 (ci 0), t2.2) : mG).1 94) (mu ((mu t2.1 88 15 (ci 0), t2.2) : mG).1 89 116 (cn R) 89) := p5
        have e89 : mu ((mu t2.1 88 15 (ci 0), t2.2) : mG).1 89 116 (cn R) 89 = mu b.1 89 116 (cn R) 89 := by
          funext k
          rw [mu_ap, mu_ap, u15 89 (by decide), g89]
        rw [e89, u15 94 (by decide)] at p5
        refine SIM_shifts (u := s15) (t := s26) (R := R) (cc := t2.1 94) h l0 (fun j hj a1 a2 a3 => ?_) (fun c hc => ?_) ?_ (fun j hj => ?_) ?_ ?_ p4 ?_ ?_ p5
        · rw [c2 j a1 a2, x35 j a3 hj]
        · rw [c3 c hc, x35 12 (by decide) (by decide)]
        · rw [c4, x6 62 (by decide) (by decide)]; exact l3
        · exact (c5 j hj).trans ((congrFun (x6 63 (by decide) (by decide)) j).trans (l5 j (by omega)))
        · rw [c2 35 (by decide) (by decide)]; exact y35
        · rw [c2 35 (by decide) (by decide)]; exact y36
        · exact (p3 4 (by decide)).trans ((c15 4 (by decide)).trans g4)
        · exact (p2 90 (by decide) (by decide)).trans ((u15 90 (by decide)).trans g90)
end
