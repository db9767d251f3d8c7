/-! 5k.one -/
section
noncomputable section
/-! ONE TEST, read by both; and a whole condition -/
section ONE
variable {T : Nat → Int32} {len m : Nat} {B : Nat → Nat}
theorem topO_open {W : List Int32} : topO (c8 40 :: W) := ⟨by show c8 40 ≠ c16 273; decide, by show c8 40 ≠ c16 272; decide, by show c8 40 ≠ c16 274; decide⟩
theorem opn_open {W : List Int32} : opn (c8 40 :: W) = opn W + 1 := by
  show (if c8 40 = c8 40 ∨ c8 40 = c16 274 then 1 else 0) + opn W = _
  rw [if_pos (Or.inl rfl), Nat.add_comm]
theorem opn_not {W : List Int32} : opn (c16 274 :: W) = opn W + 1 := by
  show (if c16 274 = c8 40 ∨ c16 274 = c16 274 then 1 else 0) + opn W = _
  rw [if_pos (Or.inr rfl), Nat.add_comm]
/-- a ( or a not opens -/
theorem S_opens {i nc : Nat} {W : List Int32} {a b : mG} {r : Int32 × mG} {v : Int32} {b' : mG} (hS : ST T len 0 m B) (h : SC T len m B i nc [] W a b) (hl : W.length ≤ 3 * opn W + 2) (K : KAO i a r) (hk : a.1 55 14 = c8 40 ∨ a.1 55 14 = c16 274) (hb : F_X12_opens b = some (v, b')) : RH b b' ∧ ((v = 0 ∧ r.1 = ci 0 ∧ FE r.2 b') ∨ (v = ci 1 ∧ ∃ u, SC T len m B (i + 1) nc [] (a.1 55 14 :: W) u b' ∧ KAO (i + 1) u r)) := by
  obtain ⟨h1, h2, h3, h4, h5, h6, h7⟩ := h
  have him := h1.2.1
  have m4 := hS.2.2.1
  have hi : i < m := S_lt hS h1 h2 (by rcases hk with e | e <;> rw [e] <;> decide)
  unfold F_X12_opens at hb
  by_cases h8 : opn W = 8
  · have e8 : b.1 88 23 = c8 8 := by rw [h5, h8]; decide
    rw [if_pos e8, V_bad, b2_some, if_pos pbo0] at hb
    cases hb
    obtain ⟨q1, q2, q3⟩ := A_full (by omega) K hk (by rw [h4.2.2, h8])
    have hp := (PR_facts hS h1 h2).2.1
    exact ⟨RH_RG RG_bad, Or.inl ⟨c0e0, q1, q2.trans ((mu_cellQ (by omega)).trans mu_same).symm, (q3.trans hp).trans mu_sameQ.symm⟩⟩
  · have e8 : ¬ b.1 88 23 = c8 8 := by
      rw [h5]
      intro q
      have q := (cn_inj (a := opn W) (b := 8) (by omega) (by omega)).mp (q.trans (by decide))
      omega
    rw [if_neg e8] at hb
    dsimp only at hb
    obtain ⟨s8, es, hb⟩ := m_b1 hb
    cases hb
    have hR6 : RP T len 0 m B i (mu b.1 88 23 (b.1 88 23 + ci 1), b.2) := RP_same h2 (mu_rowQ (by omega)) (fun c hc => mu_cellQ (by omega))
    obtain ⟨g1, g2⟩ := V_next hS h1.1 hR6 hi b' es
    obtain ⟨u, u1, u2, u3, u4, u5⟩ := A_open h1 hi m4 h4 (by omega) (by omega) K hk
    have eo : opn (a.1 55 14 :: W) = opn W + 1 := by
      rcases hk with e | e <;> rw [e]
      · exact opn_open
      · exact opn_not
    refine ⟨RH_tr RH_23 (RH_RG (RG_next g2)), Or.inr ⟨rfl, u, ⟨u1, g1, ?_, u2, ?_, by rw [eo]; omega, by show nc + (W.length + 1) ≤ i + 1; omega⟩, u5⟩⟩
    · unfold CodeR C58
      rw [u3, u4, g2.2.1 93 (by omega), g2.2.2 13 (by omega) (by omega) (by omega) (by omega), show ((mu b.1 88 23 (b.1 88 23 + ci 1), b.2) : mG).1 93 = b.1 93 from mu_rowQ (by omega), show ((mu b.1 88 23 (b.1 88 23 + ci 1), b.2) : mG).1 88 13 = b.1 88 13 from mu_cellQ (by omega)]
      exact h3
    · rw [g2.2.2 23 (by omega) (by omega) (by omega) (by omega), eo]
      refine mu_sameQ.trans ?_
      rw [h5, cnu (by omega)]
theorem EN_cmp {y v : Int32} : EN (c8 6 * c16 10000) (c8 27) v ∧ EN (c8 7 * c16 10000) (c8 28) v ∧ EN (c8 8 * c16 10000) (c8 29) v :=
  ⟨EN_op (q := (27, 6)) (by decide) (by decide) (by decide), EN_op (q := (28, 7)) (by decide) (by decide) (by decide), EN_op (q := (29, 8)) (by decide) (by decide) (by decide)⟩
/-- a comparison, its second side -/
theorem S_cmp {rec : mG → Option (Int32 × mG)} {i nc x : Nat} {W : List Int32} {a b b0 : mG} {r : Int32 × mG} {v : Int32} {b' : mG} {yc yr : Int32} (hS : ST T len 0 m B) (h : SX T len 0 m B i nc W.length [] a b) (hw : WS W a) (h5 : b.1 88 23 = cn (opn W)) (h6 : opn W ≤ 8) (hR : RH b0 b) (i0 : Nat) (hi0 : i0 < i) (hx : x < i) (hk : ¬ a.1 55 14 = ci (-1)) (hne : ¬ yc = ci (-1)) (hyr : ¬ yr = ci (-1)) (he : ∀ v, EN (yc * c16 10000) yr v)
    (K : bw (b1 (F_X7_stepOn a) fun s20 => b2 (F_X7_readSum s20) fun v23 s22 => if v23 = 0 then some (Sum.inr ((ci 0), s22)) else b1 (F_X10_push 58 (yc * (c16 10000)) s22) fun s26 => b1 (F_X7_readClosings s26) fun s28 => if (s28.1 55 14) = (c16 273) then F_X7_readCondition_96 (cn x) (ci 1) s28 else F_X7_readCondition_96 (cn x) (ci 0) s28) LC = some r)
    (hb : F_X12_oneTest_147 rec yr b = some (v, b')) : CQ i0 b0 r v b' (fun i' nc' a' => SC T len m B i' nc' [] W a' b' ∧ KOC i' (opn W) a' r) := by
  obtain ⟨h1, h2, h3, h4⟩ := h
  have m4 := hS.2.2.1
  have hi := S_lt hS h1 h2 hk
  unfold F_X12_oneTest_147 at hb
  rw [if_neg hyr] at hb
  obtain ⟨s38, e38, hb⟩ := m_b1 hb
  obtain ⟨v41, s40, e40, hb⟩ := m_b2 hb
  rw [bw_b1] at K
  obtain ⟨s20, e20, K⟩ := m_b1 K
  rw [bw_b2] at K
  obtain ⟨v23, s22, e22, K⟩ := m_b2 K
  obtain ⟨g1, g2, g3⟩ := S_step (k' := W.length + 1) hS h1 h2 h3 hi (by omega) s20 e20 s38 e38
  have hq := S_readSum hS g1 (v23, s22) e22 (v41, s40) e40
  have ev : v23 = v41 := hq.1
  have c1 : CG a s22 := CG_tr (CG_step g2) hq.2.1
  have c2 : RG b s40 := RG_tr (RG_next g3) hq.2.2.1
  by_cases hv : v23 = 0
  · rw [if_pos hv, bw_r] at K
    rw [if_pos (ev ▸ hv)] at hb
    cases hb
    have K := Option.some.inj K
    subst K
    exact ⟨RH_tr hR (RH_RG c2), fun _ => ⟨rfl, hq.2.2.2.1 hv⟩, fun e => absurd c0e0 e⟩
  · rw [if_neg hv] at K
    rw [if_neg (fun e => hv (ev.trans e))] at hb
    obtain ⟨s44, e44, hb⟩ := m_b1 hb
    cases hb
    obtain ⟨i', nc', z1, y1, y2, y3, y4⟩ := hq.2.2.2.2 hv
    have him' := y1.2.1
    rw [bw_b1] at K
    obtain ⟨s26, e26, K⟩ := m_b1 K
    obtain ⟨q1, q2, q3, q4, q5⟩ := S_emit y1 y2 y3 (he (ci 0)) (by omega) s26 e26 b' e44
    unfold F_X7_readClosings F_X7_closeNots at K
    rw [b1_b1, bw_b1] at K
    have c3 : CG a s26 := CG_tr c1 q4
    refine ⟨RH_tr hR (RH_RG (RG_tr c2 q5)), fun e => absurd e c1n0, fun _ => ⟨i', nc' + 1, s26, by omega, ⟨q1, q2, q3, ⟨?_, ?_, ?_⟩, ?_, h6, by omega⟩, x, 0, 0, by omega, by omega, by omega, ?_⟩⟩
    · rw [c3.2.1 67 (by omega) (by omega) (by omega)]; exact hw.1
    · rw [c3.2.2.1 7 (by omega) (by omega) (by omega) (by omega) (by omega) (by omega)]; exact hw.2.1
    · rw [c3.2.2.1 8 (by omega) (by omega) (by omega) (by omega) (by omega) (by omega)]; exact hw.2.2
    · rw [(RG_tr c2 q5).2.2 23 (by omega) (by omega) (by omega) (by omega) (by omega) (by omega) (by omega)]; exact h5
    · have e : (fun u : mG => bw (b1 (F_X7_readClosings_L6 (ci 0) u) fun s28 => if (s28.1 55 14) = (c16 273) then F_X7_readCondition_96 (cn x) (ci 1) s28 else F_X7_readCondition_96 (cn x) (ci 0) s28) LC) = fun u : mG => b1 (F_X7_readClosings_L6 (cn 0) u) fun s28 => bw (cend (cn x) s28) LC := by
        funext u
        rw [bw_b1]
        rfl
      rw [← e]
      exact K
theorem OTP_step {rec : mG → Option (Int32 × mG)} (hS : ST T len 0 m B) (hrec : OTP T len m B rec) : OTP T len m B (F_X12_oneTest rec) := by
  intro i nc W a b r v b' h hl h0 K hb
  have h' := h
  obtain ⟨h1, h2, h3, h4, h5, h6, h7⟩ := h
  have him := h1.2.1
  have m4 := hS.2.2.1
  obtain ⟨hKP, hpl, _, _⟩ := PR_facts hS h1 h2
  unfold F_X12_oneTest at hb
  by_cases n1 : a.1 55 14 = c16 274
  · rw [if_pos ((K_not hKP).mpr n1)] at hb
    obtain ⟨v4, s3, e3, hb⟩ := m_b2 hb
    unfold F_X12_oneTest_23 at hb
    obtain ⟨rh, hq⟩ := S_opens hS h' hl K (Or.inr n1) e3
    rcases hq with ⟨hv, q1, q2⟩ | ⟨hv, u, g, gK⟩
    · rw [if_pos hv] at hb
      cases hb
      exact ⟨rh, fun _ => ⟨q1, q2⟩, fun e => absurd c0e0 e⟩
    · rw [hv, if_neg c1n0] at hb
      obtain ⟨v8, s7, e7, hb⟩ := m_b2 hb
      rw [n1] at g
      have hq := hrec (i + 1) nc _ u s3 r v8 s7 g (by show W.length + 1 ≤ _; rw [opn_not]; omega) (by omega) gK e7
      by_cases hv8 : v8 = 0
      · rw [if_pos hv8] at hb
        cases hb
        exact ⟨RH_tr rh hq.1, fun _ => hq.2.1 hv8, fun e => absurd c0e0 e⟩
      · rw [if_neg hv8] at hb
        dsimp only at hb
        obtain ⟨s12, e12, hb⟩ := m_b1 hb
        cases hb
        obtain ⟨i', nc', a', z1, z2, z3⟩ := hq.2.2 hv8
        obtain ⟨y1, y2, y3, y4, y5, y6, y7⟩ := z2
        have him' := y1.2.1
        have hlen : (c16 274 :: W).length = W.length + 1 := rfl
        rw [hlen] at y7
        have hop : opn W ≤ 7 := by rw [opn_not] at y6; omega
        obtain ⟨w, w1, w2, w3, w4, w5⟩ := O_not y4 (by omega) y3.1 y3.2.1 (by omega) z3
        have h13 : ((mu s7.1 88 23 (s7.1 88 23 - ci 1), s7.2) : mG).1 88 13 = cn nc' := (mu_cellQ (by omega)).trans y3.2.2.1
        have e12' := V_lay h13 (by omega) b' e12
        obtain ⟨l1, l2, l3⟩ := lay_facts e12'
        have hR6 : RP T len 0 m B i' (mu s7.1 88 23 (s7.1 88 23 - ci 1), s7.2) := RP_same y2 (mu_rowQ (by omega)) (fun c hc => mu_cellQ (by omega))
        refine ⟨RH_tr rh (RH_tr hq.1 (RH_tr RH_23 (RH_RG l3))), fun e => absurd e c1n0, fun _ => ⟨i', nc' + 1, w, by omega, ⟨CP_CW y1 w4, RP_RG13 hR6 e12', ?_, w1, ?_, by omega, by omega⟩, w5⟩⟩
        · refine CodeR_add2 (v := ci 0) y3 (EN_op (q := (30, 9)) (y := c8 30) (x := ci 90000) (by decide) (by decide) (by decide)) w2 w3 ?_ l2
          rw [l1]
          exact mu_row2 (mu_row2 (mu_rowQ (by omega)))
        · rw [l3.2.2 23 (by omega) (by omega) (by omega) (by omega) (by omega) (by omega) (by omega)]
          refine mu_sameQ.trans ?_
          rw [y5, opn_not]
          exact (cn_sub (a := opn W + 1) (b := 1) (by omega) (by omega)).trans (by rw [Nat.add_sub_cancel])
  · rw [if_neg (fun q => n1 ((K_not hKP).mp q))] at hb
    by_cases n2 : a.1 55 14 = c8 40
    · rw [if_pos ((K_open hKP).mpr n2)] at hb
      obtain ⟨v4, s15, e3, hb⟩ := m_b2 hb
      unfold F_X12_oneTest_78 at hb
      obtain ⟨rh, hq⟩ := S_opens hS h' hl K (Or.inl n2) e3
      rcases hq with ⟨hv, q1, q2⟩ | ⟨hv, u, g, gK⟩
      · rw [if_pos hv] at hb
        cases hb
        exact ⟨rh, fun _ => ⟨q1, q2⟩, fun e => absurd c0e0 e⟩
      · rw [hv, if_neg c1n0] at hb
        obtain ⟨v20, s19, e19, hb⟩ := m_b2 hb
        rw [n2] at g
        have hq := S_any hS hrec topO_open (by show W.length + 1 ≤ _; rw [opn_open]; omega) (by omega) g gK e19
        by_cases hv20 : v20 = 0
        · rw [if_pos hv20] at hb
          cases hb
          exact ⟨RH_tr rh hq.1, fun _ => hq.2.1 hv20, fun e => absurd c0e0 e⟩
        · rw [if_neg hv20] at hb
          obtain ⟨v24, s23, e23, hb⟩ := m_b2 hb
          obtain ⟨i', nc', a', z1, ps, hps, hpl2, z2, z3, z4, z5⟩ := hq.2.2 hv20
          obtain ⟨y1, y2, y3, y4, y5, y6, y7⟩ := z2
          have him' := y1.2.1
          have hlen : (ps ++ c8 40 :: W).length = ps.length + (W.length + 1) := by simp
          rw [hlen] at y7
          have eo : opn (ps ++ c8 40 :: W) = opn W + 1 := by rw [opn_ps ps _ hps, opn_open]
          obtain ⟨hK2, hpl3, _, _⟩ := PR_facts hS y1 y2
          unfold F_X12_need at e23
          by_cases n3 : a'.1 55 14 = c8 41
          · have hi' := S_lt hS y1 y2 (by rw [n3]; decide)
            rw [if_pos ((K_close hK2).mpr n3)] at e23
            obtain ⟨s3', e3', e23⟩ := m_b1 e23
            cases e23
            obtain ⟨g1, g2⟩ := V_next hS y1.1 y2 hi' s23 e3'
            obtain ⟨w, w1, w2, w3, w4⟩ := D_close y1 hi' m4 y4 (by rw [hlen]; omega) hps (by omega) y6 y3 n3 z3
            rw [if_neg c1n0] at hb
            dsimp only at hb
            cases hb
            refine ⟨RH_tr rh (RH_tr hq.1 (RH_tr (RH_RG (RG_next g2)) RH_23)), fun e => absurd e c1n0, fun _ => ⟨i' + 1, nc' + ps.length, w, by omega, ⟨w1, RP_same g1 (mu_rowQ (by omega)) (fun c hc => mu_cellQ (by omega)), ?_, w2, ?_, by omega, by omega⟩, w4⟩⟩
            · unfold CodeR
              rw [show ((mu s23.1 88 23 (s23.1 88 23 - ci 1), s23.2) : mG).1 93 = s23.1 93 from mu_rowQ (by omega), show ((mu s23.1 88 23 (s23.1 88 23 - ci 1), s23.2) : mG).1 88 13 = s23.1 88 13 from mu_cellQ (by omega)]
              exact CodeR_step w3 CFr_rfl g2
            · refine mu_sameQ.trans ?_
              rw [g2.2.2 23 (by omega) (by omega) (by omega) (by omega), y5, eo]
              exact (cn_sub (a := opn W + 1) (b := 1) (by omega) (by omega)).trans (by rw [Nat.add_sub_cancel])
          · rw [if_neg (fun q => n3 ((K_close hK2).mp q)), V_bad, b2_some, if_pos pbo0] at e23
            cases e23
            rw [if_pos c0e0] at hb
            cases hb
            obtain ⟨x, hx, K1⟩ := D_exit (by omega) (Or.inl n3) z3
            have hE := E_done (W := c8 40 :: W) y1 y4 (by rw [hlen]; omega) z4 z5 hps ⟨topO_open.1, topO_open.2.1⟩ (by omega) y3 K1
            have ne : ¬ a'.1 55 8 = cn 0 := by
              rw [y4.2.2, eo, cn_inj (by omega) (by omega)]
              omega
            rcases hE with ⟨e, _⟩ | ⟨_, f1, f2, f3⟩
            · exact absurd e ne
            · exact ⟨RH_tr rh (RH_tr hq.1 (RH_RG RG_bad)), fun _ => ⟨f1, f2.trans ((mu_cellQ (by omega)).trans mu_same).symm, (f3.trans hpl3).trans mu_sameQ.symm⟩, fun e => absurd c0e0 e⟩
    · rw [if_neg (fun q => n2 ((K_open hKP).mp q))] at hb
      obtain ⟨v29, s28, e28, hb⟩ := m_b2 hb
      obtain ⟨x, hx, K1⟩ := A_plain (by omega) K n2 n1
      unfold crest F_X7_readCondition_33 at K1
      rw [if_neg c1n0, bw_b2] at K1
      obtain ⟨v10, s9, e9, K1⟩ := m_b2 K1
      have hq := S_readSum hS ⟨h1, h2, h3, h7⟩ (v10, s9) e9 (v29, s28) e28
      have ev : v10 = v29 := hq.1
      by_cases hv : v10 = 0
      · rw [if_pos hv, bw_b1r] at K1
        rw [if_pos (ev ▸ hv)] at hb
        cases hb
        have K1 := Option.some.inj K1
        subst K1
        exact ⟨RH_RG hq.2.2.1, fun _ => ⟨rfl, hq.2.2.2.1 hv⟩, fun e => absurd c0e0 e⟩
      · rw [if_neg hv] at K1
        rw [if_neg (fun e => hv (ev.trans e))] at hb
        obtain ⟨i', nc', z1, z2⟩ := hq.2.2.2.2 hv
        have z2' := z2
        obtain ⟨y1, y2, y3, y4⟩ := z2
        obtain ⟨hK2, hpl2, _, _⟩ := PR_facts hS y1 y2
        have c1 : CG a s9 := hq.2.1
        have hw : WS W s9 := ⟨by rw [c1.2.1 67 (by omega) (by omega) (by omega)]; exact h4.1, by rw [c1.2.2.1 7 (by omega) (by omega) (by omega) (by omega) (by omega) (by omega)]; exact h4.2.1, by rw [c1.2.2.1 8 (by omega) (by omega) (by omega) (by omega) (by omega) (by omega)]; exact h4.2.2⟩
        have hd : s28.1 88 23 = cn (opn W) := by rw [hq.2.2.1.2.2 23 (by omega) (by omega) (by omega) (by omega) (by omega) (by omega) (by omega)]; exact h5
        have rh := RH_RG hq.2.2.1
        unfold F_X7_stepOfComparison at K1
        have hcmp := @EN_cmp (ci 0)
        by_cases k1 : s9.1 55 14 = ci 60
        · rw [if_pos k1, b1_some, if_neg (by decide)] at K1
          rw [if_pos ((K_below hK2).mpr k1)] at hb
          exact S_cmp hS z2' hw hd h6 rh i z1 (by omega) (by rw [k1]; decide) (by decide) (by decide) (fun v => (EN_cmp (y := ci 0) (v := v)).1) K1 hb
        rw [if_neg k1] at K1
        rw [if_neg (fun q => k1 ((K_below hK2).mp q))] at hb
        by_cases k2 : s9.1 55 14 = ci 61
        · rw [if_pos k2, b1_some, if_neg (by decide)] at K1
          rw [if_pos ((K_same hK2).mpr k2)] at hb
          exact S_cmp hS z2' hw hd h6 rh i z1 (by omega) (by rw [k2]; decide) (by decide) (by decide) (fun v => (EN_cmp (y := ci 0) (v := v)).2.1) K1 hb
        rw [if_neg k2] at K1
        rw [if_neg (fun q => k2 ((K_same hK2).mp q))] at hb
        by_cases k3 : s9.1 55 14 = ci 62
        · rw [if_pos k3, b1_some, if_neg (by decide)] at K1
          rw [if_pos ((K_above hK2).mpr k3)] at hb
          exact S_cmp hS z2' hw hd h6 rh i z1 (by omega) (by rw [k3]; decide) (by decide) (by decide) (fun v => (EN_cmp (y := ci 0) (v := v)).2.2) K1 hb
        rw [if_neg k3, b1_some, if_pos rfl, V_refuse, b2_some, if_pos pbo0, bw_r] at K1
        rw [if_neg (fun q => k3 ((K_above hK2).mp q))] at hb
        unfold F_X12_oneTest_147 at hb
        rw [if_pos rfl, V_bad, b2_some, if_pos pbo0] at hb
        cases hb
        have K1 := Option.some.inj K1
        subst K1
        exact ⟨RH_tr rh (RH_RG RG_bad), fun _ => ⟨rfl, ((mu_cellQ (by omega)).trans mu_same).trans ((mu_cellQ (by omega)).trans mu_same).symm, mu_sameQ.trans (hpl2.trans mu_sameQ.symm)⟩, fun e => absurd c0e0 e⟩
theorem OTP_Q (hS : ST T len 0 m B) : ∀ n, OTP T len m B (Q_X12_oneTest n)
  | 0 => fun _ _ _ _ _ _ _ _ _ _ _ _ e => by cases e
  | n + 1 => OTP_step hS (OTP_Q hS n)
theorem any_pb {rec : mG → Option (Int32 × mG)} {b : mG} : pk (F_X12_any rec b) (fun τ => PB τ.1) := by
  unfold F_X12_any
  refine pk_b2 pk_top (fun v s _ => pk_ite (pk_some pb0) ?_)
  unfold F_X12_any_L9
  refine pk_whl (fun _ => True) trivial (fun w _ => ?_)
  unfold F_X12_any_B9
  exact pk_ite (pk_b1 pk_top (fun _ _ => pk_b2 pk_top (fun _ _ _ => pk_ite (pk_some pb0) (pk_b1 pk_top (fun _ _ => pk_some trivial))))) (pk_some pb1)
/-- a whole condition -/
theorem S_cond {i nc : Nat} {a b : mG} (hS : ST T len 0 m B) (h0 : 0 < i) (h : SX T len 0 m B i nc 0 [] a b) (h23 : b.1 88 23 = cn 0) : rel (F_X7_readCondition a) (F_X12_any R_X12_oneTest b) (fun τ υ => τ.1 = υ.1 ∧ RH b υ.2 ∧ (τ.1 = 0 → FE τ.2 υ.2) ∧ (¬ τ.1 = 0 → ∃ i' nc', i < i' ∧ SX T len 0 m B i' nc' 0 [] τ.2 υ.2)) := by
  intro r hr υ hb
  obtain ⟨v, b'⟩ := υ
  obtain ⟨h1, h2, h3, h4⟩ := h
  have him := h1.2.1
  have m4 := hS.2.2.1
  unfold F_X7_readCondition at hr
  dsimp only at hr
  have cw : CW a (mu (mu a.1 55 7 (ci 0)) 55 8 (ci 0), a.2) := ⟨fun j q1 _ _ _ => (mu_rowQ q1).trans (mu_row q1), fun c q1 q2 => (mu_cellQ (Or.inr q2)).trans (mu_cell (Or.inr q1)), fun c _ => (congrFun (mu_rowQ (by omega)) c).trans (congrFun (mu_row (by omega)) c)⟩
  have hSC : SC T len m B i nc [] [] (mu (mu a.1 55 7 (ci 0)) 55 8 (ci 0), a.2) b := by
    refine ⟨CP_CW h1 cw, h2, ?_, ⟨trivial, ?_, ?_⟩, h23, by show 0 ≤ 8; omega, by show nc + 0 ≤ i; omega⟩
    · unfold CodeR C58
      rw [show ((mu (mu a.1 55 7 (ci 0)) 55 8 (ci 0), a.2) : mG).1 58 = a.1 58 from (mu_rowQ (by omega)).trans (mu_row (by omega)), show ((mu (mu a.1 55 7 (ci 0)) 55 8 (ci 0), a.2) : mG).1 59 = a.1 59 from (mu_rowQ (by omega)).trans (mu_row (by omega))]
      exact h3
    · exact (mu_cellQ (by omega)).trans mu_same
    · exact mu_sameQ
  have K : KAO i (mu (mu a.1 55 7 (ci 0)) 55 8 (ci 0), a.2) r := by
    refine ⟨0, 0, h0, h0, ?_⟩
    rw [RC_bw] at hr
    unfold F_X7_readCondition_B12 F_X7_readOpenings at hr
    rw [if_neg (show ¬ c16 400 ≤ ci 0 by decide), bw_b2] at hr
    exact hr
  have hq := S_any hS (OTP_Q hS 9) (W := []) ⟨by show ci (-1) ≠ c16 273; decide, by show ci (-1) ≠ c16 272; decide, by show ci (-1) ≠ c16 274; decide⟩ (by show 0 ≤ _; omega) h0 hSC K hb
  by_cases hv : v = 0
  · obtain ⟨q1, q2⟩ := hq.2.1 hv
    exact ⟨q1.trans (c0e0.trans hv.symm), hq.1, fun _ => q2, fun e => absurd (q1.trans c0e0) e⟩
  · obtain ⟨i', nc', a', z1, ps, hps, hpl2, z2, z3, z4, z5⟩ := hq.2.2 hv
    obtain ⟨y1, y2, y3, y4, y5, y6, y7⟩ := z2
    have him' := y1.2.1
    rw [List.append_nil] at y4 y5 y6 y7
    have eo : opn ps = 0 := by
      have := opn_ps ps [] hps
      rw [List.append_nil] at this
      exact this
    have e8 : a'.1 55 8 = cn 0 := by rw [y4.2.2, eo]
    obtain ⟨x, hx, K1⟩ := D_exit (by omega) (Or.inr e8) z3
    have hE := E_done (W := []) (ps := ps) y1 (by rw [List.append_nil]; exact y4) (by rw [List.append_nil]; omega) z4 z5 hps ⟨by show ci (-1) ≠ c16 273; decide, by show ci (-1) ≠ c16 272; decide⟩ (by omega) y3 K1
    rcases hE with ⟨_, f1, f2, f3⟩ | ⟨e, _⟩
    · have hv1 : v = ci 1 := ((any_pb (v, b') hb).resolve_left hv).trans (by decide)
      refine ⟨f1.trans hv1.symm, hq.1, fun e => absurd (f1.symm.trans e) c1n0, fun _ => ⟨i', nc' + ps.length, z1, f2, y2, f3, by omega⟩⟩
    · exact absurd e8 e
end ONE
end
end
/-! 5l.law -/
section
noncomputable section
/-! THE LAW'S LINES, read by both -/
section LINES
variable {T : Nat → Int32} {len r m : Nat} {B : Nat → Nat}
theorem K_when {kc kr : Int32} (h : KP 0 kc kr) : kr = ci 3 ↔ kc = c16 271 := KP_iff (v := 3) (z := 271) (by decide) (by decide) (by decide +kernel) h
theorem K_semi {kc kr : Int32} (hr : r < 3) (h : KP r kc kr) : kr = c16 159 ↔ kc = c8 59 := by
  have e : r = 0 ∨ r = 1 ∨ r = 2 := by omega
  rcases e with e | e | e <;> subst e <;> exact KP_iff (v := 159) (z := 59) (by decide) (by decide) (by decide +kernel) h
theorem K_first {kc kr : Int32} (h : KP 0 kc kr) : ((20 ≤ kr.toInt ∧ kr.toInt ≤ 25) ↔ (256 ≤ kc.toInt ∧ kc.toInt ≤ 261)) ∧ (256 ≤ kc.toInt ∧ kc.toInt ≤ 261 → kr.toInt - 20 = kc.toInt - 256) := KP_rng (by decide +kernel) h
theorem S_fail0 {i : Nat} {a b : mG} {w : Int32} (hS : ST T len r m B) (h1 : CP T len m B i a) (h2 : RP T len r m B i b) : rel (F_X7_refuse w a) (F_X12_bad w b) (fun τ υ => τ.1 = ci 0 ∧ υ.1 = ci 0 ∧ FE τ.2 υ.2) := by
  rw [V_refuse, V_bad]
  have g := (PR_facts hS h1 h2).2.1
  refine rel_some ⟨rfl, rfl, ?_, ?_⟩
  · exact ((mu_cellQ (by omega)).trans mu_same).trans ((mu_cellQ (by omega)).trans mu_same).symm
  · exact mu_sameQ.trans (g.trans mu_sameQ.symm)
theorem CP_rows {i : Nat} {a u : mG} (h : CP T len m B i a) (e55 : u.1 55 = a.1 55) (e65 : u.1 65 = a.1 65) (e66 : u.1 66 = a.1 66) : CP T len m B i u := by
  obtain ⟨h1, h2, h3, h4, h5, h6⟩ := h
  refine ⟨TKA_row h1 e65 e66, h2, ?_, ?_, ?_, ?_⟩
  · rw [e55]; exact h3
  · rw [e55, e66]; exact h4
  · rw [e55, e66]; exact h5
  · rw [e55, e66]; exact h6
theorem CodeR_rows {nc : Nat} {p : List Nat} {a b u w : mG} (h : CodeR nc p a b) (e58 : u.1 58 = a.1 58) (e59 : u.1 59 = a.1 59) (e93 : w.1 93 = b.1 93) (e13 : w.1 88 13 = b.1 88 13) : CodeR nc p u w := by
  unfold CodeR C58
  rw [e58, e59, e93, e13]
  exact h
/-- a ; or whatever must stand here -/
theorem S_pass {i nc k : Nat} {p : List Nat} {a b : mG} {x y : Int32} (hS : ST T len r m B) (h1 : CP T len m B i a) (h2 : RP T len r m B i b) (h3 : CodeR nc p a b) (h4 : nc + k ≤ i + 1) (hx : ¬ x = ci (-1)) (hk : ∀ {kc kr : Int32}, KP r kc kr → (kr = y ↔ kc = x)) : rel (F_X7_pass x a) (F_X12_need y b) (fun τ υ => τ.1 = υ.1 ∧ PB τ.1 ∧ (τ.1 = 0 → FE τ.2 υ.2) ∧ (¬ τ.1 = 0 → SX T len r m B (i + 1) nc k p τ.2 υ.2 ∧ CFr a τ.2 ∧ NF b υ.2)) := by
  have hK := (PR_facts hS h1 h2).1
  unfold F_X7_pass F_X12_need
  refine rel_ifs (hk hK).symm (fun e => ?_) (fun e => ?_)
  · have hi := S_lt hS h1 h2 (by rw [e]; exact hx)
    refine rel_b1 (S_step (k' := k) hS h1 h2 h3 hi h4) (fun u w q => ?_)
    exact rel_some ⟨rfl, pb1, fun e => absurd e c1n0, fun _ => q⟩
  · refine rel_b2 (S_fail0 hS h1 h2) (fun v u v2 w q => ?_)
    obtain ⟨q1, q2, q3⟩ := q
    have q1 : v = ci 0 := q1
    have q2 : v2 = ci 0 := q2
    subst q1; subst q2
    exact rel_lp (rel_rp (rel_some ⟨rfl, pb0, fun _ => q3, fun e => absurd c0e0 e⟩))
def LR (c d : Nat → Int32) (j : Nat) : Prop := c (j * 4 + 1) = d (4 * j) ∧ c (j * 4 + 2) = d (4 * j + 1) ∧ c (j * 4 + 3) = d (4 * j + 2) ∧ ∃ w, w < 6 ∧ c (j * 4 + 0) = cn w ∧ d (4 * j + 3) = cn (20 + w)
/-- L lines here, Lr counted there -/
def LL (L Lr : Nat) (a b : mG) : Prop := L ≤ 16 ∧ a.1 56 0 = cn 16 ∧ a.1 56 1 = cn 4 ∧ a.1 56 3 = cn L ∧ b.1 88 12 = cn Lr ∧ ∀ j, j < L → LR (a.1 57) (b.1 92) j
/-- the L-th line, half read -/
def LHf (L : Nat) (a b : mG) : Prop := L < 16 ∧ a.1 56 0 = cn 16 ∧ a.1 56 1 = cn 4 ∧ a.1 56 3 = cn (L + 1) ∧ b.1 88 12 = cn L ∧ (∀ j, j < L → LR (a.1 57) (b.1 92) j) ∧ (∃ w, w < 6 ∧ a.1 57 (L * 4 + 0) = cn w ∧ b.1 92 (4 * L + 3) = cn (20 + w)) ∧ a.1 57 (L * 4 + 1) = b.1 92 (4 * L)
theorem al_57 : m_alen (56 + 1) = 64 := by decide +kernel
theorem ix4 {b : mG} {L c : Nat} (h : b.1 88 12 = cn L) (hL : L < 16) (hc : c < 4) : (ci 4) * (b.1 88 12) = cn (4 * L) ∧ cn (4 * L) + cn c = cn (4 * L + c) := by
  rw [h]
  exact ⟨cn_mul (a := 4) (by omega) (by omega) (by omega), cn_add (by omega)⟩
/-- what a line comes to -/
def LQf (T : Nat → Int32) (len m : Nat) (B : Nat → Nat) (i0 L : Nat) (τ υ : Int32 × mG) : Prop := τ.1 = υ.1 ∧ PB τ.1 ∧ (τ.1 = 0 → FE τ.2 υ.2) ∧ (¬ τ.1 = 0 → ∃ i' nc', i0 < i' ∧ SX T len 0 m B i' nc' 0 [] τ.2 υ.2 ∧ LL (L + 1) L τ.2 υ.2)
theorem S_lineEnd {i nc i0 L : Nat} {a b : mG} (hS : ST T len 0 m B) (hi0 : i0 ≤ i) (h : SX T len 0 m B i nc 0 [] a b) (hL : LHf L a b) (h2w : a.1 57 (L * 4 + 2) = b.1 92 (4 * L + 1)) : rel (F_X7_readLaw_126 (cn L) a) (F_X12_aLine_123 b) (LQf T len m B i0 L) := by
  obtain ⟨h1, h2, h3, h4⟩ := h
  obtain ⟨l0, l1, l2, l3, l4, l5, ⟨w, lw, l6, l7⟩, l8⟩ := hL
  unfold F_X7_readLaw_126 F_X12_aLine_123
  rw [V_put (r := L) (a2 := ci 3) (c := 3) (n := L + 1) (W := 4) rfl rfl l2 l3 (by omega) (by omega) (by rw [al_57]; omega) (by omega), b1_some]
  refine rel_rg ?_
  have e4 := ix4 (c := 2) l4 l0 (by omega)
  have e4' : (ci 4) * (b.1 88 12) + (ci 2) = cn (4 * L + 2) := by rw [e4.1]; exact e4.2
  rw [e4', cn_nat (by omega), h3.2.1, show b.1 88 13 = cn nc from h3.2.2.1]
  dsimp only
  have c1 : CP T len m B i (mu a.1 57 (L * 4 + 3) (cn nc), a.2) := CP_rows h1 (mu_rowQ (by omega)) (mu_rowQ (by omega)) (mu_rowQ (by omega))
  have c2 : RP T len 0 m B i (mu b.1 92 (4 * L + 2) (cn nc), b.2) := RP_same h2 (mu_rowQ (by omega)) (fun c _ => congrFun (mu_rowQ (by omega)) c)
  have c3 : CodeR nc [] (mu a.1 57 (L * 4 + 3) (cn nc), a.2) (mu b.1 92 (4 * L + 2) (cn nc), b.2) := CodeR_rows h3 (mu_rowQ (by omega)) (mu_rowQ (by omega)) (mu_rowQ (by omega)) (congrFun (mu_rowQ (by omega)) 13)
  refine rel_b2 (P := fun τ υ => τ.1 = υ.1 ∧ PB τ.1 ∧ (τ.1 = 0 → FE τ.2 υ.2) ∧ (¬ τ.1 = 0 → SX T len 0 m B (i + 1) nc 0 [] τ.2 υ.2 ∧ CFr (mu a.1 57 (L * 4 + 3) (cn nc), a.2) τ.2 ∧ NF (mu b.1 92 (4 * L + 2) (cn nc), b.2) υ.2)) (S_pass hS c1 c2 c3 (by omega) (by decide) (K_semi hS.2.1)) (fun v u v2 s q => rel_lp (rel_rp (rel_some ?_)))
  obtain ⟨q1, q2, q3, q4⟩ := q
  refine ⟨q1, q2, q3, fun e => ?_⟩
  obtain ⟨z1, z2, z3⟩ := q4 e
  refine ⟨i + 1, nc, by omega, z1, by omega, ?_, ?_, ?_, ?_, fun j hj => ?_⟩
  · rw [z2.2.1 56 (by omega)]; exact (congrFun (mu_rowQ (by omega)) 0).trans l1
  · rw [z2.2.1 56 (by omega)]; exact (congrFun (mu_rowQ (by omega)) 1).trans l2
  · rw [z2.2.1 56 (by omega)]; exact (congrFun (mu_rowQ (by omega)) 3).trans l3
  · rw [z3.2.2 12 (by omega) (by omega) (by omega) (by omega)]; exact (congrFun (mu_rowQ (by omega)) 12).trans l4
  · rw [z2.2.1 57 (by omega), z3.2.1 92 (by omega)]
    unfold LR
    show mu a.1 57 (L * 4 + 3) (cn nc) 57 (j * 4 + 1) = mu b.1 92 (4 * L + 2) (cn nc) 92 (4 * j) ∧ mu a.1 57 (L * 4 + 3) (cn nc) 57 (j * 4 + 2) = mu b.1 92 (4 * L + 2) (cn nc) 92 (4 * j + 1) ∧ mu a.1 57 (L * 4 + 3) (cn nc) 57 (j * 4 + 3) = mu b.1 92 (4 * L + 2) (cn nc) 92 (4 * j + 2) ∧ ∃ w, w < 6 ∧ mu a.1 57 (L * 4 + 3) (cn nc) 57 (j * 4 + 0) = cn w ∧ mu b.1 92 (4 * L + 2) (cn nc) 92 (4 * j + 3) = cn (20 + w)
    rw [mu_cell (show (57 : Nat) ≠ 57 ∨ j * 4 + 1 ≠ L * 4 + 3 by omega), mu_cell (show (57 : Nat) ≠ 57 ∨ j * 4 + 2 ≠ L * 4 + 3 by omega), mu_cell (show (57 : Nat) ≠ 57 ∨ j * 4 + 0 ≠ L * 4 + 3 by omega), mu_cell (show (92 : Nat) ≠ 92 ∨ 4 * j ≠ 4 * L + 2 by omega), mu_cell (show (92 : Nat) ≠ 92 ∨ 4 * j + 1 ≠ 4 * L + 2 by omega), mu_cell (show (92 : Nat) ≠ 92 ∨ 4 * j + 3 ≠ 4 * L + 2 by omega)]
    by_cases hjL : j = L
    · subst hjL
      rw [mu_same, mu_same]
      exact ⟨l8, h2w, rfl, w, lw, l6, l7⟩
    · rw [mu_cell (show (57 : Nat) ≠ 57 ∨ j * 4 + 3 ≠ L * 4 + 3 by omega), mu_cell (show (92 : Nat) ≠ 92 ∨ 4 * j + 2 ≠ 4 * L + 2 by omega)]
      exact l5 j (by omega)
theorem LR_same {c d c' d' : Nat → Int32} {j : Nat} (h : LR c d j) (hc : ∀ k, k < 4 → c' (j * 4 + k) = c (j * 4 + k)) (hd : ∀ k, k < 4 → d' (4 * j + k) = d (4 * j + k)) : LR c' d' j := by
  unfold LR
  rw [hc 1 (by omega), hc 2 (by omega), hc 3 (by omega), hc 0 (by omega), hd 1 (by omega), hd 2 (by omega), hd 3 (by omega), show d' (4 * j) = d (4 * j) from hd 0 (by omega)]
  exact h
/-- a line -/
theorem S_line {i nc L : Nat} {a b : mG} (hS : ST T len 0 m B) (h : SX T len 0 m B i nc 0 [] a b) (hL : LL L L a b) : rel (F_X7_readLaw a) (F_X12_aLine b) (LQf T len m B i L) := by
  obtain ⟨h1, h2, h3, h4⟩ := h
  obtain ⟨l0, l1, l2, l3, l4, l5⟩ := hL
  have hK := (PR_facts hS h1 h2).1
  have hF := K_first hK
  unfold F_X7_readLaw F_X12_aLine
  rw [V_within, b1_some, F_isIn, b1_some]
  have no : ∀ w : Int32, rel (b2 (F_X7_refuse w a) fun v s => if v = 0 ∨ v = 1 then some (v, s) else none) (b2 (F_X12_bad w b) fun v s => if v = 0 ∨ v = 1 then some (v, s) else none) (LQf T len m B i L) := fun w => by
    refine rel_b2 (S_fail0 hS h1 h2) (fun v u v2 s q => rel_lp (rel_rp (rel_some ?_)))
    obtain ⟨q1, q2, q3⟩ := q
    have q1 : v = ci 0 := q1
    have q2 : v2 = ci 0 := q2
    subst q1; subst q2
    exact ⟨rfl, pb0, fun _ => q3, fun e => absurd c0e0 e⟩
  by_cases hm : 256 ≤ (a.1 55 14).toInt ∧ (a.1 55 14).toInt ≤ 261
  · have hr := hF.1.mpr hm
    have hd := hF.2 hm
    have hi : i < m := S_lt hS h1 h2 (fun e => by rw [e, t_cm1] at hm; omega)
    rw [wi_in (by rw [show (c16 256).toInt = 256 by decide]; exact hm.1) (by rw [show (c16 261).toInt = 261 by decide]; exact hm.2), wi_in (by rw [show (c8 20).toInt = 20 by decide]; exact hr.1) (by rw [show (c8 25).toInt = 25 by decide]; exact hr.2), if_neg c1n0, if_neg c1n0]
    by_cases hL : L < 16
    · have e16 : ¬ b.1 88 12 = c8 16 := by
        rw [l4]
        intro q
        have q := (cn_inj (a := L) (b := 16) (by omega) (by omega)).mp (q.trans (by decide))
        omega
      rw [if_neg e16, V_add l1 l3 (by decide) hL, b2_some, if_neg (by
        intro q
        have q := r_eq (t_cn (n := L) (by omega)) t_cm1 q
        omega)]
      have w1 : (mu a.1 56 3 (cn (L + 1)), a.2).1 56 1 = cn 4 := (mu_cellQ (by omega)).trans l2
      rw [V_put (r := L) (a2 := ci 0) (c := 0) (n := L + 1) (W := 4) rfl rfl w1 mu_sameQ (by omega) (by omega) (by rw [al_57]; omega) (by omega), b1_some]
      have w2 : (mu (mu a.1 56 3 (cn (L + 1))) 57 (L * 4 + 0) (mu a.1 56 3 (cn (L + 1)) 55 14 - c16 256), a.2).1 56 1 = cn 4 := (congrFun (mu_rowQ (by omega)) 1).trans w1
      have w3 : (mu (mu a.1 56 3 (cn (L + 1))) 57 (L * 4 + 0) (mu a.1 56 3 (cn (L + 1)) 55 14 - c16 256), a.2).1 56 3 = cn (L + 1) := (congrFun (mu_rowQ (by omega)) 3).trans mu_same
      rw [V_put (r := L) (a2 := ci 1) (c := 1) (n := L + 1) (W := 4) rfl rfl w2 w3 (by omega) (by omega) (by rw [al_57]; omega) (by omega), b1_some]
      dsimp only
      -- the class's state
      have x55 : mu a.1 56 3 (cn (L + 1)) 55 14 = a.1 55 14 := congrFun (mu_row (by omega)) 14
      have x58 : mu (mu a.1 56 3 (cn (L + 1))) (56 + 1) (L * 4 + 0) (mu a.1 56 3 (cn (L + 1)) 55 14 - c16 256) 58 3 = cn nc := by
        rw [mu_row (by omega), mu_row (by omega)]; exact h3.2.1
      rw [x58, x55]
      generalize hD : mu (mu (mu a.1 56 3 (cn (L + 1))) (56 + 1) (L * 4 + 0) (a.1 55 14 - c16 256)) (56 + 1) (L * 4 + 1) (cn nc) = D
      have dr : ∀ j, j ≠ 56 → j ≠ 57 → D j = a.1 j := fun j q1 q2 => by rw [← hD, mu_row q2, mu_row q2, mu_row q1]
      have d56 : ∀ c, c ≠ 3 → D 56 c = a.1 56 c := fun c q => by rw [← hD, mu_row (by omega), mu_row (by omega), mu_cell (Or.inr q)]
      have d563 : D 56 3 = cn (L + 1) := by rw [← hD, mu_row (by omega), mu_row (by omega), mu_same]
      have d57 : ∀ k, k ≠ L * 4 + 0 → k ≠ L * 4 + 1 → D 57 k = a.1 57 k := fun k q1 q2 => by rw [← hD, mu_cell (Or.inr q2), mu_cell (Or.inr q1), mu_row (by omega)]
      have d570 : D 57 (L * 4 + 0) = a.1 55 14 - c16 256 := by rw [← hD, mu_cell (by omega), mu_same]
      have d571 : D 57 (L * 4 + 1) = cn nc := by rw [← hD, mu_same]
      clear hD
      -- the reference's
      refine rel_rg ?_
      have e23 : mu b.1 88 23 (ci 0) 88 12 = cn L := (mu_cell (by omega)).trans l4
      have i3 : (ci 4) * (mu b.1 88 23 (ci 0) 88 12) + (ci 3) = cn (4 * L + 3) := by
        rw [e23, show (ci 4) * cn L = cn (4 * L) from cn_mul (a := 4) (by omega) (by omega) (by omega)]
        exact cn_add (b := 3) (by omega)
      rw [i3, cn_nat (by omega), show mu b.1 88 23 (ci 0) 88 17 = b.1 88 17 from mu_cell (by omega)]
      have c1 : CP T len m B i (D, a.2) := CP_rows h1 (dr 55 (by omega) (by omega)) (dr 65 (by omega) (by omega)) (dr 66 (by omega) (by omega))
      have c2 : RP T len 0 m B i (mu (mu b.1 88 23 (ci 0)) 92 (4 * L + 3) (b.1 88 17), b.2) := RP_same h2 ((mu_rowQ (by omega)).trans (mu_row (by omega))) (fun c hc => (congrFun (mu_rowQ (by omega)) c).trans (mu_cell (by omega)))
      have c3 : CodeR nc [] (D, a.2) (mu (mu b.1 88 23 (ci 0)) 92 (4 * L + 3) (b.1 88 17), b.2) := CodeR_rows h3 (dr 58 (by omega) (by omega)) (dr 59 (by omega) (by omega)) ((mu_rowQ (by omega)).trans (mu_row (by omega))) ((congrFun (mu_rowQ (by omega)) 13).trans (mu_cell (by omega)))
      refine rel_b1 (S_step (k' := 0) hS c1 c2 c3 hi (by omega)) (fun u s q => ?_)
      obtain ⟨⟨g1, g2, g3, g4⟩, gc, gn⟩ := q
      -- the sum
      refine rel_rg ?_
      have s12 : s.1 88 12 = cn L := by
        rw [gn.2.2 12 (by omega) (by omega) (by omega) (by omega)]
        exact (congrFun (mu_rowQ (by omega)) 12).trans e23
      have i0 : (ci 4) * (s.1 88 12) = cn (4 * L) := by rw [s12]; exact cn_mul (a := 4) (by omega) (by omega) (by omega)
      rw [i0, cn_nat (by omega), show s.1 88 13 = cn nc from g3.2.2.1]
      have b2' : RP T len 0 m B (i + 1) (mu s.1 92 (4 * L) (cn nc), s.2) := RP_same g2 (mu_rowQ (by omega)) (fun c _ => congrFun (mu_rowQ (by omega)) c)
      have b3' : CodeR nc [] u (mu s.1 92 (4 * L) (cn nc), s.2) := CodeR_rows g3 rfl rfl (mu_rowQ (by omega)) (congrFun (mu_rowQ (by omega)) 13)
      try dsimp only
      refine rel_b2 (S_readSum hS ⟨g1, b2', b3', g4⟩) (fun v u2 v2 s2 q => ?_)
      have ev : v = v2 := q.1
      by_cases hv : v = 0
      · rw [if_pos hv, if_pos (ev ▸ hv)]
        exact rel_some ⟨rfl, pb0, fun _ => q.2.2.2.1 hv, fun e => absurd c0e0 e⟩
      · rw [if_neg hv, if_neg (fun e => hv (ev.trans e))]
        obtain ⟨i', nc', z1, y1, y2, y3, y4⟩ := q.2.2.2.2 hv
        have cg : CG u u2 := q.2.1
        have rg : RG (mu s.1 92 (4 * L) (cn nc), s.2) s2 := q.2.2.1
        have u56 : u2.1 56 = D 56 := (cg.2.1 56 (by omega) (by omega) (by omega)).trans (gc.2.1 56 (by omega))
        have u57 : u2.1 57 = D 57 := (cg.2.1 57 (by omega) (by omega) (by omega)).trans (gc.2.1 57 (by omega))
        have v92 : s2.1 92 = mu s.1 92 (4 * L) (cn nc) 92 := rg.2.1 92 (by omega) (by omega)
        have v92s : s.1 92 = mu (mu b.1 88 23 (ci 0)) 92 (4 * L + 3) (b.1 88 17) 92 := gn.2.1 92 (by omega)
        have v12 : s2.1 88 12 = cn L := by
          rw [rg.2.2 12 (by omega) (by omega) (by omega) (by omega) (by omega) (by omega) (by omega)]
          exact (congrFun (mu_rowQ (by omega)) 12).trans s12
        have v23 : s2.1 88 23 = cn 0 := by
          rw [rg.2.2 23 (by omega) (by omega) (by omega) (by omega) (by omega) (by omega) (by omega)]
          refine (congrFun (mu_rowQ (by omega)) 23).trans ?_
          rw [gn.2.2 23 (by omega) (by omega) (by omega) (by omega)]
          exact (congrFun (mu_rowQ (by omega)) 23).trans mu_same
        have t92 : ∀ k, k ≠ 4 * L → k ≠ 4 * L + 3 → s2.1 92 k = b.1 92 k := fun k q1 q2 => by
          rw [v92, mu_cell (Or.inr q1), v92s, mu_cell (Or.inr q2), mu_row (by omega)]
        have t920 : s2.1 92 (4 * L) = cn nc := by rw [v92, mu_same]
        have t923 : s2.1 92 (4 * L + 3) = b.1 88 17 := by rw [v92, mu_cell (by omega), v92s, mu_same]
        have p1 : u2.1 56 1 = cn 4 := by rw [u56, d56 1 (by omega)]; exact l2
        have p3 : u2.1 56 3 = cn (L + 1) := by rw [u56]; exact d563
        rw [V_put (r := L) (a2 := ci 2) (c := 2) (n := L + 1) (W := 4) rfl rfl p1 p3 (by omega) (by omega) (by rw [al_57]; omega) (by omega), b1_some]
        refine rel_rg ?_
        have i1 : (ci 4) * (s2.1 88 12) + (ci 1) = cn (4 * L + 1) := by
          rw [v12, show (ci 4) * cn L = cn (4 * L) from cn_mul (a := 4) (by omega) (by omega) (by omega)]
          exact cn_add (b := 1) (by omega)
        rw [i1, cn_nat (by omega), y3.2.1, show s2.1 88 13 = cn nc' from y3.2.2.1]
        dsimp only
        have a1 : CP T len m B i' (mu u2.1 (56 + 1) (L * 4 + 2) (cn nc'), u2.2) := CP_rows y1 (mu_rowQ (by omega)) (mu_rowQ (by omega)) (mu_rowQ (by omega))
        have a2 : RP T len 0 m B i' (mu s2.1 92 (4 * L + 1) (cn nc'), s2.2) := RP_same y2 (mu_rowQ (by omega)) (fun c _ => congrFun (mu_rowQ (by omega)) c)
        have a3 : CodeR nc' [] (mu u2.1 (56 + 1) (L * 4 + 2) (cn nc'), u2.2) (mu s2.1 92 (4 * L + 1) (cn nc'), s2.2) := CodeR_rows y3 (mu_rowQ (by omega)) (mu_rowQ (by omega)) (mu_rowQ (by omega)) (congrFun (mu_rowQ (by omega)) 13)
        -- half read
        have half : ∀ (x y : mG), x.1 56 = u2.1 56 → x.1 57 = mu u2.1 57 (L * 4 + 2) (cn nc') 57 → y.1 92 = mu s2.1 92 (4 * L + 1) (cn nc') 92 → y.1 88 12 = cn L → LHf L x y ∧ x.1 57 (L * 4 + 2) = y.1 92 (4 * L + 1) := by
          intro x y x56 x57 y92 y12
          refine ⟨⟨hL, ?_, ?_, ?_, y12, fun j hj => ?_, ⟨((a.1 55 14).toInt - 256).toNat, by omega, ?_, ?_⟩, ?_⟩, ?_⟩
          · rw [x56, u56, d56 0 (by omega)]; exact l1
          · rw [x56]; exact p1
          · rw [x56]; exact p3
          · rw [x57, y92]
            refine LR_same (l5 j hj) (fun k hk => ?_) (fun k hk => ?_)
            · rw [mu_cell (by omega), u57, d57 _ (by omega) (by omega)]
            · rw [mu_cell (by omega), t92 _ (by omega) (by omega)]
          · rw [x57, mu_cell (by omega), u57, d570]
            refine Int32.toInt_inj.mp ?_
            rw [r_sub rfl (by decide : (c16 256).toInt = 256) (by omega) (by omega), t_cn (by omega)]
            omega
          · rw [y92, mu_cell (by omega), t923]
            refine Int32.toInt_inj.mp ?_
            rw [t_cn (by omega)]
            omega
          · rw [x57, y92, mu_cell (by omega), mu_cell (by omega), u57, d571, t920]
          · rw [x57, y92, mu_same, mu_same]
        have hKw := (PR_facts hS a1 a2).1
        refine rel_ifs (K_when hKw).symm (fun e => ?_) (fun e => ?_)
        · have hi' := S_lt hS a1 a2 (fun z => absurd (e.symm.trans z) (by decide))
          refine rel_b1 (S_step (k' := 0) hS a1 a2 a3 hi' (by omega)) (fun u3 s3 q => ?_)
          obtain ⟨f1, f2, f3⟩ := q
          have x23 : s3.1 88 23 = cn 0 := by
            rw [f3.2.2 23 (by omega) (by omega) (by omega) (by omega)]
            exact (congrFun (mu_rowQ (by omega)) 23).trans v23
          have hc := S_cond hS (by omega) f1 x23
          intro τ hτ υ hυ
          obtain ⟨v33, s32, e33, hτ⟩ := m_b2 hτ
          obtain ⟨v31, s30, e31, hυ⟩ := m_b2 hυ
          obtain ⟨o1, o2, o3, o4⟩ := hc (v33, s32) e33 (v31, s30) e31
          have hw := W_X7_readCondition (M := 148474672515150512128) (z := u3) sub_rfl KB_rfl (v33, s32) e33
          have hw : KB 148474672515150512128 u3 s32 := hw
          have o1 : v33 = v31 := o1
          by_cases hv3 : v33 = 0
          · rw [if_pos hv3] at hτ
            rw [if_pos (o1 ▸ hv3)] at hυ
            cases hτ; cases hυ
            exact ⟨rfl, pb0, fun _ => o3 hv3, fun e => absurd c0e0 e⟩
          · rw [if_neg hv3] at hτ
            rw [if_neg (fun e => hv3 (o1.trans e))] at hυ
            obtain ⟨i3, nc3, t1, t2⟩ := o4 hv3
            have hh := half s32 s30 ((hw 56 (by decide +kernel)).trans ((f2.2.1 56 (by omega)).trans (mu_rowQ (by omega)))) ((hw 57 (by decide +kernel)).trans (f2.2.1 57 (by omega))) ((o2.2.1 92 (by omega) (by omega)).trans (f3.2.1 92 (by omega))) (by
              rw [o2.2.2 12 (by omega) (by omega) (by omega) (by omega) (by omega) (by omega) (by omega) (by omega), f3.2.2 12 (by omega) (by omega) (by omega) (by omega)]
              exact (congrFun (mu_rowQ (by omega)) 12).trans v12)
            exact S_lineEnd (i0 := i) hS (by omega) t2 hh.1 hh.2 τ hτ υ hυ
        · have hh := half (mu u2.1 (56 + 1) (L * 4 + 2) (cn nc'), u2.2) (mu s2.1 92 (4 * L + 1) (cn nc'), s2.2) (mu_rowQ (by omega)) rfl rfl ((congrFun (mu_rowQ (by omega)) 12).trans v12)
          exact S_lineEnd (i0 := i) hS (by omega) ⟨a1, a2, a3, by omega⟩ hh.1 hh.2
    · have e16 : b.1 88 12 = c8 16 := by rw [l4, show L = 16 by omega]; decide
      rw [if_pos e16, V_add1 l1 l3 (by omega) (by decide) hL, b2_some, if_pos rfl]
      exact no (ci 3)
  · rw [wi_out (by rw [show (c16 256).toInt = 256 by decide, show (c16 261).toInt = 261 by decide]; exact hm), wi_out (by rw [show (c8 20).toInt = 20 by decide, show (c8 25).toInt = 25 by decide]; exact fun q => hm (hF.1.mp q)), if_pos c0e0, if_pos c0e0]
    exact no (ci 1)
end LINES
end
end
/-! 5m.rows -/
section
noncomputable section
/-! SIGNS AND SHIFTS, read by both -/
section ROWS
variable {T : Nat → Int32} {len r m : Nat} {B : Nat → Nat}
theorem S_step0 {i : Nat} {a b : mG} (hS : ST T len r m B) (h1 : CP T len m B i a) (h2 : RP T len r m B i b) (hi : i < m) : rel (F_X7_stepOn a) (F_X12_next0 b) (fun u w => CP T len m B (i + 1) u ∧ RP T len r m B (i + 1) w ∧ CFr a u ∧ NF b w) := by
  intro u hu w hw
  obtain ⟨g1, g2⟩ := V_stepOn h1 hi u hu
  obtain ⟨g3, g4⟩ := V_next hS h1.1 h2 hi w hw
  exact ⟨g1, g3, g2, g4⟩
theorem S_pass0 {i : Nat} {a b : mG} {x y : Int32} (hS : ST T len r m B) (h1 : CP T len m B i a) (h2 : RP T len r m B i b) (hx : ¬ x = ci (-1)) (hk : ∀ {kc kr : Int32}, KP r kc kr → (kr = y ↔ kc = x)) : rel (F_X7_pass x a) (F_X12_need y b) (fun τ υ => τ.1 = υ.1 ∧ PB τ.1 ∧ (τ.1 = 0 → FE τ.2 υ.2) ∧ (¬ τ.1 = 0 → CP T len m B (i + 1) τ.2 ∧ RP T len r m B (i + 1) υ.2 ∧ CFr a τ.2 ∧ NF b υ.2)) := by
  have hK := (PR_facts hS h1 h2).1
  unfold F_X7_pass F_X12_need
  refine rel_ifs (hk hK).symm (fun e => ?_) (fun e => ?_)
  · have hi := S_lt hS h1 h2 (by rw [e]; exact hx)
    refine rel_b1 (S_step0 hS h1 h2 hi) (fun u w q => ?_)
    exact rel_some ⟨rfl, pb1, fun e => absurd e c1n0, fun _ => q⟩
  · refine rel_b2 (S_fail0 hS h1 h2) (fun v u v2 w q => ?_)
    obtain ⟨q1, q2, q3⟩ := q
    have q1 : v = ci 0 := q1
    have q2 : v2 = ci 0 := q2
    subst q1; subst q2
    exact rel_lp (rel_rp (rel_some ⟨rfl, pb0, fun _ => q3, fun e => absurd c0e0 e⟩))
theorem K_num1 {kc kr : Int32} (hr : r < 3) (h : KP r kc kr) : kr = ci 2 ↔ kc = c8 (-2) := by
  have e : r = 0 ∨ r = 1 ∨ r = 2 := by omega
  rcases e with e | e | e <;> subst e <;> exact KP_iff (v := 2) (z := -2) (by decide) (by decide) (by decide +kernel) h
/-- a row being read: R rows stand, n numbers in all -/
def RW2 (t W M R n : Nat) (a b : mG) : Prop := R < M ∧ a.1 t 0 = cn M ∧ a.1 t 1 = cn W ∧ a.1 t 3 = cn (R + 1) ∧ b.1 88 14 = cn R ∧ ∀ k, k < n → a.1 (t + 1) k = b.1 94 k
theorem S_named {t W M R c i : Nat} {a b : mG} {x y lo hi cc pl : Int32} (hS : ST T len r m B) (ht : t = 60 ∧ W = 2 ∧ M = 6 ∨ t = 62 ∧ W = 4 ∧ M = 12) (h1 : CP T len m B i a) (h2 : RP T len r m B i b) (hx : ¬ x = ci (-1)) (hk : ∀ {kc kr : Int32}, KP r kc kr → (kr = y ↔ kc = x)) (hc : c < W) (hcc : cc = cn c) (hpl : pl = cn (W * R + c)) (hR : RW2 t W M R (W * R + c) a b) : rel (F_X7_readNamed t x lo hi cc a) (F_X12_told pl y lo hi b) (fun τ υ => τ.1 = υ.1 ∧ PB τ.1 ∧ (τ.1 = 0 → FE τ.2 υ.2) ∧ (¬ τ.1 = 0 → CP T len m B (i + 2) τ.2 ∧ RP T len r m B (i + 2) υ.2 ∧ RW2 t W M R (W * R + c + 1) τ.2 υ.2)) := by
  obtain ⟨l0, l1, l2, l3, l4, l5⟩ := hR
  have htt : 60 ≤ t ∧ t ≤ 62 ∧ W ≤ 4 ∧ M ≤ 12 ∧ M * W ≤ m_alen (t + 1) ∧ m_alen (t + 1) ≤ 48 := by
    rcases ht with ⟨e1, e2, e3⟩ | ⟨e1, e2, e3⟩ <;> subst e1 <;> subst e2 <;> subst e3
    · have e : m_alen (60 + 1) = 12 := by decide +kernel
      rw [e]; omega
    · have e : m_alen (62 + 1) = 48 := by decide +kernel
      rw [e]; omega
  have hRM : (R + 1) * W ≤ M * W := Nat.mul_le_mul_right W (by omega)
  have hWR : W * R = R * W := Nat.mul_comm W R
  have hRW1 : (R + 1) * W = R * W + W := by rw [Nat.add_mul, Nat.one_mul]
  unfold F_X7_readNamed F_X12_told F_X12_told_18 F_X12_number
  refine rel_b2 (S_pass0 hS h1 h2 hx hk) (fun v u v2 w q => ?_)
  obtain ⟨q1, q2, q3, q4⟩ := q
  have q1 : v = v2 := q1
  by_cases hv : v = 0
  · rw [if_pos hv, if_pos (q1 ▸ hv)]
    exact rel_some ⟨rfl, pb0, fun _ => q3 hv, fun e => absurd c0e0 e⟩
  · rw [if_neg hv, if_neg (fun e => hv (q1.trans e))]
    obtain ⟨g1, g2, g3, g4⟩ := q4 hv
    obtain ⟨hK, hpl2, hval, _⟩ := PR_facts hS g1 g2
    have no : ∀ y : Int32, rel (b2 (F_X7_refuse y u) fun v s => if v = 0 ∨ v = 1 then some (v, s) else none) (b2 (b2 (F_X12_bad y w) fun v s => if v = 0 ∨ v = 1 then some (v, s) else none) fun v7 s6 => if v7 = 0 then some ((ci 0), s6) else if pl < 0 ∨ 48 ≤ pl.toNatClampNeg then none else let s10 : mG := (mu s6.1 94 pl.toNatClampNeg (s6.1 88 25), s6.2); some ((ci 1), s10)) (fun τ υ => τ.1 = υ.1 ∧ PB τ.1 ∧ (τ.1 = 0 → FE τ.2 υ.2) ∧ (¬ τ.1 = 0 → CP T len m B (i + 2) τ.2 ∧ RP T len r m B (i + 2) υ.2 ∧ RW2 t W M R (W * R + c + 1) τ.2 υ.2)) := by
      intro y
      have ff := S_fail0 (w := y) hS g1 g2
      rw [V_refuse, V_bad] at ff ⊢
      rw [b2_some, if_pos pbo0, b2_some, if_pos pbo0, b2_some, if_pos c0e0]
      have f2 := ff _ rfl _ rfl
      exact rel_some ⟨rfl, pb0, fun _ => f2.2.2, fun e => absurd c0e0 e⟩
    by_cases hN : u.1 55 14 = c8 (-2)
    · have hr := (K_num1 hS.2.1 hK).mpr hN
      have hv2 := hval hN
      rw [if_pos hN, if_pos hr, V_within, b1_some, F_isIn, b1_some, ← hv2]
      by_cases hw : wi (u.1 55 15) lo hi = 0
      · rw [if_pos hw, if_pos hw]
        exact no (ci 2)
      · rw [if_neg hw, if_neg hw]
        have u1 : u.1 t 1 = cn W := by rw [g3.2.1 t (by omega)]; exact l2
        have u3 : u.1 t 3 = cn (R + 1) := by rw [g3.2.1 t (by omega)]; exact l3
        have e3 : u.1 t 3 - ci 1 = cn R := by
          rw [u3]; exact (cn_sub (a := R + 1) (b := 1) (by omega) (by omega)).trans (by rw [Nat.add_sub_cancel])
        have hi2 := S_lt hS g1 g2 (by rw [hN]; decide)
        rw [V_put (r := R) (c := c) (n := R + 1) (W := W) e3 hcc u1 u3 (by omega) hc (by omega) (by omega), b1_some]
        dsimp only
        have c1 : CP T len m B (i + 1) (mu u.1 (t + 1) (R * W + c) (u.1 55 15), u.2) := CP_rows g1 (mu_rowQ (by omega)) (mu_rowQ (by omega)) (mu_rowQ (by omega))
        have c2 : RP T len r m B (i + 1) (mu w.1 88 25 (u.1 55 15), w.2) := RP_same g2 (mu_rowQ (by omega)) (fun c hc => mu_cellQ (by omega))
        rw [b2_b1]
        refine rel_b1 (S_step0 hS c1 c2 hi2) (fun u2 w2 q => ?_)
        obtain ⟨f1, f2, f3, f4⟩ := q
        rw [b2_some, if_neg c1n0]
        refine rel_rg ?_
        have hp : pl.toNatClampNeg = W * R + c := by rw [hpl, cn_nat (by omega)]
        rw [hp]
        have w25 : w2.1 88 25 = u.1 55 15 := by
          rw [f4.2.2 25 (by omega) (by omega) (by omega) (by omega)]; exact mu_sameQ
        rw [w25]
        have ru : ∀ j, j ≠ 55 → j ≠ t + 1 → u2.1 j = a.1 j := fun j a1 a2 => (f3.2.1 j a1).trans ((mu_rowQ a2).trans (g3.2.1 j a1))
        refine rel_some ⟨rfl, pb1, fun e => absurd e c1n0, fun _ => ⟨f1, RP_same f2 (mu_rowQ (by omega)) (fun c _ => congrFun (mu_rowQ (by omega)) c), l0, ?_, ?_, ?_, ?_, fun k hk => ?_⟩⟩
        · rw [ru t (by omega) (by omega)]; exact l1
        · rw [ru t (by omega) (by omega)]; exact l2
        · rw [ru t (by omega) (by omega)]; exact l3
        · refine (congrFun (mu_rowQ (by omega)) 14).trans ?_
          rw [f4.2.2 14 (by omega) (by omega) (by omega) (by omega)]
          refine (mu_cellQ (by omega)).trans ?_
          rw [g4.2.2 14 (by omega) (by omega) (by omega) (by omega)]; exact l4
        · have e1 : u2.1 (t + 1) = mu u.1 (t + 1) (R * W + c) (u.1 55 15) (t + 1) := f3.2.1 (t + 1) (by omega)
          have e2 : w2.1 94 = b.1 94 := (f4.2.1 94 (by omega)).trans ((mu_rowQ (by omega)).trans (g4.2.1 94 (by omega)))
          show u2.1 (t + 1) k = mu w2.1 94 (W * R + c) (u.1 55 15) 94 k
          rw [e1]
          by_cases hkc : k = W * R + c
          · rw [hkc, mu_same, hWR, mu_same]
          · rw [mu_cell (by omega), mu_cell (by omega), e2, g3.2.1 (t + 1) (by omega)]
            exact l5 k (by omega)
    · rw [if_neg hN, if_neg (fun q => hN ((K_num1 hS.2.1 hK).mp q))]
      exact no (ci 1)
end ROWS
end
end
/-! 5n.text -/
section
noncomputable section
/-! A TEXT, read by both: row by row -/
section TEXT
variable {T : Nat → Int32} {len r m : Nat} {B : Nat → Nat}
/-- what a row comes to -/
def ROWP (INV : Nat → mG → mG → Prop) (i : Nat) (τ : Int32 × mG) (s : (Int32 × mG) ⊕ (Int32 × mG)) : Prop := (τ.1 = 0 ∧ ∃ y, (s = Sum.inr (ci 0, y) ∨ s = Sum.inl (ci 0, y)) ∧ FE τ.2 y) ∨ (¬ τ.1 = 0 ∧ ∃ y, s = Sum.inl (ci 1, y) ∧ ∃ i', i < i' ∧ INV i' τ.2 y)
def TXP (INV : Nat → mG → mG → Prop) (m : Nat) (τ υ : Int32 × mG) : Prop := τ.1 = υ.1 ∧ PB τ.1 ∧ (τ.1 = 0 → FE τ.2 υ.2) ∧ (¬ τ.1 = 0 → INV m τ.2 υ.2)
theorem TL_bw {x1 x2 : Int32} {a : mG} : F_X7_readText_L64 x1 x2 a = bw (F_X7_readText_B64 x1 x2 a) (fun v => F_X7_readText_L64 v.1 v.2.1 v.2.2) := whl_bw _ _
theorem T_106 {x1 x2 v : Int32} {a : mG} : bw (F_X7_readText_106 x1 x2 v a) (fun v => F_X7_readText_L64 v.1 v.2.1 v.2.2) = if v = 0 then some (ci 0, a) else F_X7_readText_L64 x1 (x2 + ci 1) a := by
  unfold F_X7_readText_106
  rw [bw_if]
  rfl
/-- the class's loop, one turn -/
theorem T_turn {k : Int32} {rdc : mG → Option (Int32 × mG)} (hk : (k = 0 ∧ rdc = F_X7_readLaw) ∨ (¬ k = 0 ∧ k = ci 1 ∧ rdc = F_X7_readSign) ∨ (¬ k = 0 ∧ ¬ k = ci 1 ∧ rdc = F_X7_readShift)) {x : Nat} {a : mG} (hx : x ≤ 400) (h : x = 400 → a.1 55 14 = ci (-1)) : F_X7_readText_L64 k (cn x) a = if a.1 55 14 = ci (-1) then some (ci 1, a) else b2 (rdc a) fun v s => if v = 0 then some (ci 0, s) else F_X7_readText_L64 k (cn (x + 1)) s := by
  rw [TL_bw]
  unfold F_X7_readText_B64 F_X7_readText_119
  by_cases he : a.1 55 14 = ci (-1)
  · rw [if_pos he, if_pos he]
    by_cases h4 : c16 400 ≤ cn x
    · rw [if_pos h4, bw_b1r]
    · rw [if_neg h4, bw_b1r]
  · have hx4 : x < 400 := by
      have : x ≠ 400 := fun e => he (h e)
      omega
    rw [if_neg he, if_neg he, if_neg (n400 hx4)]
    have fin : ∀ F : mG → Option (Int32 × mG), bw (b2 (F a) fun v s => F_X7_readText_106 k (cn x) v s) (fun v => F_X7_readText_L64 v.1 v.2.1 v.2.2) = b2 (F a) fun v s => if v = 0 then some (ci 0, s) else F_X7_readText_L64 k (cn (x + 1)) s := fun F => by
      rw [bw_b2]
      congr 1
      funext v s
      rw [T_106, cnu (by omega)]
    rcases hk with ⟨e, e2⟩ | ⟨e0, e, e2⟩ | ⟨e0, e, e2⟩
    · subst e2; rw [if_pos e]; exact fin _
    · subst e2; rw [if_neg e0, if_pos e]; exact fin _
    · subst e2; rw [if_neg e0, if_neg e]; exact fin _
theorem S_loop {k : Int32} {rdc : mG → Option (Int32 × mG)} {rdr : mG → Option ((Int32 × mG) ⊕ (Int32 × mG))} {Lr : Int32 → mG → Option (Int32 × mG)} (INV : Nat → mG → mG → Prop) (hS : ST T len r m B)
    (hk : (k = 0 ∧ rdc = F_X7_readLaw) ∨ (¬ k = 0 ∧ k = ci 1 ∧ rdc = F_X7_readSign) ∨ (¬ k = 0 ∧ ¬ k = ci 1 ∧ rdc = F_X7_readShift))
    (hinv : ∀ i a b, INV i a b → CP T len m B i a ∧ RP T len r m B i b)
    (h1 : ∀ i a b, INV i a b → Lr (ci 1) b = if b.1 88 17 = 0 then some (ci 1, b) else bw (rdr b) (fun v => Lr v.1 v.2)) (h0 : ∀ b, Lr (ci 0) b = some (ci 0, b))
    (hrow : ∀ i a b, INV i a b → i < m → rel (rdc a) (rdr b) (ROWP INV i)) : ∀ (n i x : Nat) (a b : mG), m - i ≤ n → x ≤ i → INV i a b → rel (F_X7_readText_L64 k (cn x) a) (Lr (ci 1) b) (TXP INV m) := by
  have hKend : ∀ i a b, INV i a b → (b.1 88 17 = 0 ↔ a.1 55 14 = ci (-1)) := fun i a b h => by
    have hp := hinv i a b h
    have hK := (PR_facts hS hp.1 hp.2).1
    have e : r = 0 ∨ r = 1 ∨ r = 2 := by have := hS.2.1; omega
    rcases e with e | e | e <;> subst e <;> exact KP_iff (v := 0) (z := -1) (by decide) (by decide) (by decide +kernel) hK
  intro n
  induction n with
  | zero =>
    intro i x a b hn hx h
    have hp := hinv i a b h
    have him := hp.1.2.1
    have m4 := hS.2.2.1
    have he := (PR_facts hS hp.1 hp.2).2.2.2.mpr (by omega)
    rw [T_turn hk (by omega) (fun _ => he), if_pos he, h1 i a b h, if_pos ((hKend i a b h).mpr he)]
    exact rel_some ⟨rfl, pb1, fun e => absurd e c1n0, fun _ => (show i = m by omega) ▸ h⟩
  | succ n ih =>
    intro i x a b hn hx h
    have hp := hinv i a b h
    have him := hp.1.2.1
    have m4 := hS.2.2.1
    have hend := (PR_facts hS hp.1 hp.2).2.2.2
    rw [T_turn hk (by omega) (fun e => hend.mpr (by omega)), h1 i a b h]
    refine rel_ifs (hKend i a b h).symm (fun e => ?_) (fun e => ?_)
    · exact rel_some ⟨rfl, pb1, fun e => absurd e c1n0, fun _ => (hend.mp e) ▸ h⟩
    · have hi := S_lt hS hp.1 hp.2 e
      intro τ hτ υ hυ
      obtain ⟨v, s, e1, hτ⟩ := m_b2 hτ
      have e2 : ∃ z, rdr b = some z ∧ bw (some z) (fun v => Lr v.1 v.2) = some υ := by
        cases hz : rdr b with
        | none => rw [hz] at hυ; cases hυ
        | some z => rw [hz] at hυ; exact ⟨z, rfl, hυ⟩
      obtain ⟨z, e2, hυ⟩ := e2
      rcases hrow i a b h hi (v, s) e1 z e2 with ⟨q1, y, q2, q3⟩ | ⟨q1, y, q2, i', q3, q4⟩
      · have q1 : v = 0 := q1
        rw [if_pos q1] at hτ
        have hτ := Option.some.inj hτ
        have hυ2 : υ = (ci 0, y) := by
          rcases q2 with q2 | q2
          · rw [q2, bw_r] at hυ; exact (Option.some.inj hυ).symm
          · rw [q2, bw_l, h0] at hυ; exact (Option.some.inj hυ).symm
        subst hτ; subst hυ2
        exact ⟨rfl, pb0, fun _ => q3, fun e => absurd c0e0 e⟩
      · have q1 : ¬ v = 0 := q1
        rw [if_neg q1] at hτ
        rw [q2, bw_l] at hυ
        exact ih i' (x + 1) s y (by omega) (by omega) q4 τ hτ υ hυ
/-! the law -/
def INVL (T : Nat → Int32) (len m : Nat) (B : Nat → Nat) (i : Nat) (a b : mG) : Prop := ∃ nc L, SX T len 0 m B i nc 0 [] a b ∧ LL L L a b
theorem LW_bw {x : Int32} {b : mG} : F_X12_readsLaw_L12 x b = bw (F_X12_readsLaw_B12 x b) (fun v => F_X12_readsLaw_L12 v.1 v.2) := whl_bw _ _
def rdL (b : mG) : Option ((Int32 × mG) ⊕ (Int32 × mG)) := b2 (F_X12_aLine b) fun v8 s7 => if v8 = 0 then F_X12_readsLaw_42 v8 (s7.1 88 12) (ci 0) s7 else F_X12_readsLaw_42 v8 (s7.1 88 12) (ci 1) s7
theorem S_lawLoop {i x : Nat} {a b : mG} (hS : ST T len 0 m B) (hx : x ≤ i) (h : INVL T len m B i a b) : rel (F_X7_readText_L64 (ci 0) (cn x) a) (F_X12_readsLaw_L12 (ci 1) b) (TXP (INVL T len m B) m) := by
  refine S_loop (rdc := F_X7_readLaw) (rdr := rdL) (INVL T len m B) hS (Or.inl ⟨by decide, rfl⟩) (fun i a b h => ?_) (fun i a b _ => ?_) (fun b => ?_) (fun i a b h hi => ?_) (m - i) i x a b (Nat.le_refl _) hx h
  · obtain ⟨nc, L, h1, _⟩ := h
    exact ⟨h1.1, h1.2.1⟩
  · rw [LW_bw]
    unfold F_X12_readsLaw_B12 F_X12_readsLaw_49
    rw [if_neg c1n0, bw_if, bw_b1r, if_pos pbo1]
    rfl
  · rw [LW_bw]
    unfold F_X12_readsLaw_B12 F_X12_readsLaw_49
    rw [if_pos c0e0, bw_b1r, if_pos pbo0]
  · obtain ⟨nc, L, h1, h2⟩ := h
    intro τ hτ z hz
    unfold rdL at hz
    obtain ⟨v8, s7, e7, hz⟩ := m_b2 hz
    obtain ⟨q1, q2, q3, q4⟩ := S_line hS h1 h2 τ hτ (v8, s7) e7
    unfold F_X12_readsLaw_42 at hz
    have q1 : τ.1 = v8 := q1
    by_cases hv : v8 = 0
    · rw [if_pos hv] at hz
      have hz := Option.some.inj hz
      subst hz
      refine Or.inl ⟨q1.trans hv, _, Or.inr (by rw [hv, show (0 : Int32) = ci 0 by decide]), ?_⟩
      have f := q3 (q1.trans hv)
      exact ⟨f.1.trans (mu_cellQ (by omega)).symm, f.2.trans (mu_cellQ (by omega)).symm⟩
    · rw [if_neg hv] at hz
      have hz := Option.some.inj hz
      subst hz
      have hne : ¬ τ.1 = 0 := fun e => hv (q1.symm.trans e)
      obtain ⟨i', nc', z1, z2, z3⟩ := q4 hne
      have hv1 : v8 = ci 1 := (q1.symm.trans (q2.resolve_left hne)).trans (by decide)
      refine Or.inr ⟨hne, (mu s7.1 88 12 (s7.1 88 12 + ci 1), s7.2), by rw [hv1], i', z1, nc', L + 1, ?_, ?_⟩
      · obtain ⟨y1, y2, y3, y4⟩ := z2
        exact ⟨y1, RP_same y2 (mu_rowQ (by omega)) (fun c hc => mu_cellQ (by omega)), CodeR_rows y3 rfl rfl (mu_rowQ (by omega)) (mu_cellQ (by omega)), y4⟩
      · obtain ⟨l0, l1, l2, l3, l4, l5⟩ := z3
        refine ⟨l0, l1, l2, l3, ?_, fun j hj => ?_⟩
        · refine mu_sameQ.trans ?_
          have l4 : s7.1 88 12 = cn L := l4
          rw [l4, cnu (by omega)]
        · rw [show ((mu s7.1 88 12 (s7.1 88 12 + ci 1), s7.2) : mG).1 92 = s7.1 92 from mu_rowQ (by omega)]
          exact l5 j hj
/-! signs and shifts -/
def RWs (t W M R : Nat) (a b : mG) : Prop := R ≤ M ∧ a.1 t 0 = cn M ∧ a.1 t 1 = cn W ∧ a.1 t 3 = cn R ∧ b.1 88 14 = cn R ∧ ∀ k, k < W * R → a.1 (t + 1) k = b.1 94 k
def INVR (T : Nat → Int32) (len r m : Nat) (B : Nat → Nat) (t W M : Nat) (i : Nat) (a b : mG) : Prop := CP T len m B i a ∧ RP T len r m B i b ∧ ∃ R, RWs t W M R a b
theorem RR_bw {x : Int32} {b : mG} : F_X12_readsRows_L7 x b = bw (F_X12_readsRows_B7 x b) (fun v => F_X12_readsRows_L7 v.1 v.2) := whl_bw _ _
theorem K_word {kc kr : Int32} : (KP 1 kc kr → (kr = c8 7 ↔ kc = c16 275)) ∧ (KP 1 kc kr → (kr = c8 8 ↔ kc = c16 276)) ∧ (KP 1 kc kr → (kr = c8 9 ↔ kc = c16 277)) ∧ (KP 2 kc kr → (kr = c8 10 ↔ kc = c16 278)) ∧ (KP 2 kc kr → (kr = c8 11 ↔ kc = c16 279)) ∧ (KP 2 kc kr → (kr = c8 12 ↔ kc = c16 280)) ∧ (KP 2 kc kr → (kr = c8 13 ↔ kc = c16 281)) :=
  ⟨KP_iff (v := 7) (z := 275) (by decide) (by decide) (by decide +kernel), KP_iff (v := 8) (z := 276) (by decide) (by decide) (by decide +kernel), KP_iff (v := 9) (z := 277) (by decide) (by decide) (by decide +kernel), KP_iff (v := 10) (z := 278) (by decide) (by decide) (by decide +kernel), KP_iff (v := 11) (z := 279) (by decide) (by decide) (by decide +kernel), KP_iff (v := 12) (z := 280) (by decide) (by decide) (by decide +kernel), KP_iff (v := 13) (z := 281) (by decide) (by decide) (by decide +kernel)⟩
/-- what a row's reading comes to -/
def RQ (T : Nat → Int32) (len r m : Nat) (B : Nat → Nat) (t W M R i : Nat) (τ υ : Int32 × mG) : Prop := τ.1 = υ.1 ∧ PB τ.1 ∧ (τ.1 = 0 → FE τ.2 υ.2) ∧ (¬ τ.1 = 0 → ∃ i', i < i' ∧ CP T len m B i' τ.2 ∧ RP T len r m B i' υ.2 ∧ RW2 t W M R (W * R + W) τ.2 υ.2)
theorem S_sign {i R : Nat} {a b : mG} (hS : ST T len 1 m B) (h1 : CP T len m B i a) (h2 : RP T len 1 m B i b) (hk : a.1 55 14 = c16 275) (hR : RWs 60 2 6 R a b) (hR6 : R < 6) : rel (F_X7_readSign a) (F_X12_aSign b) (RQ T len 1 m B 60 2 6 R i) := by
  obtain ⟨l0, l1, l2, l3, l4, l5⟩ := hR
  have hi := S_lt hS h1 h2 (by rw [hk]; decide)
  have hK := (PR_facts hS h1 h2).1
  have hw : b.1 88 17 = c8 7 := (K_word.1 hK).mpr hk
  unfold F_X7_readSign F_X7_readHead F_X7_readHead_30 F_X7_readSign_71 F_X12_aSign F_X12_aSign_63
  rw [if_pos hk, V_add l1 l3 (by decide) hR6, b2_some, if_neg (by
    intro q
    have q := r_eq (t_cn (n := R) (by omega)) t_cm1 q
    omega), b2_some, if_neg c1n0]
  unfold F_X12_need
  rw [if_pos hw, b2_b1]
  have c1 : CP T len m B i (mu a.1 60 3 (cn (R + 1)), a.2) := CP_rows h1 (mu_rowQ (by omega)) (mu_rowQ (by omega)) (mu_rowQ (by omega))
  refine rel_b1 (S_step0 hS c1 h2 hi) (fun u w q => ?_)
  obtain ⟨g1, g2, g3, g4⟩ := q
  rw [b2_some, if_neg c1n0]
  have w14 : w.1 88 14 = cn R := by rw [g4.2.2 14 (by omega) (by omega) (by omega) (by omega)]; exact l4
  have e2 : (ci 2) * cn R = cn (2 * R + 0) := by rw [Nat.add_zero]; exact cn_mul (a := 2) (by omega) (by omega) (by omega)
  have r0 : RW2 60 2 6 R (2 * R + 0) u w := by
    refine ⟨hR6, ?_, ?_, ?_, w14, fun k hk => ?_⟩
    · rw [g3.2.1 60 (by omega)]; exact (mu_cellQ (by omega)).trans l1
    · rw [g3.2.1 60 (by omega)]; exact (mu_cellQ (by omega)).trans l2
    · rw [g3.2.1 60 (by omega)]; exact mu_sameQ
    · rw [g3.2.1 (60 + 1) (by omega), g4.2.1 94 (by omega)]
      exact (congrFun (mu_rowQ (by omega)) k).trans (l5 k (by omega))
  refine rel_b2 (S_named (c := 0) hS (Or.inl ⟨rfl, rfl, rfl⟩) g1 g2 (by decide) (fun h => K_word.2.1 h) (by omega) rfl (by rw [w14]; exact e2) r0) (fun v u2 v2 w2 q => ?_)
  obtain ⟨q1, q2, q3, q4⟩ := q
  have q1 : v = v2 := q1
  by_cases hv : v = 0
  · rw [if_pos hv, if_pos (q1 ▸ hv)]
    exact rel_some ⟨rfl, pb0, fun _ => q3 hv, fun e => absurd c0e0 e⟩
  rw [if_neg hv, if_neg (fun e => hv (q1.trans e))]
  obtain ⟨f1, f2, f3⟩ := q4 hv
  have e3 : (ci 2) * w2.1 88 14 + ci 1 = cn (2 * R + 1) := by
    rw [f3.2.2.2.2.1, show (ci 2) * cn R = cn (2 * R) from cn_mul (a := 2) (by omega) (by omega) (by omega)]
    exact cnu (by omega)
  refine rel_b2 (S_named (c := 1) hS (Or.inl ⟨rfl, rfl, rfl⟩) f1 f2 (by decide) (fun h => K_word.2.2.1 h) (by omega) rfl e3 f3) (fun v u3 v2 w3 q => ?_)
  obtain ⟨q1, q2, q3, q4⟩ := q
  have q1 : v = v2 := q1
  by_cases hv : v = 0
  · rw [if_pos hv, if_pos (q1 ▸ hv)]
    exact rel_some ⟨rfl, pb0, fun _ => q3 hv, fun e => absurd c0e0 e⟩
  rw [if_neg hv, if_neg (fun e => hv (q1.trans e))]
  obtain ⟨y1, y2, y3⟩ := q4 hv
  refine rel_b2 (S_pass0 hS y1 y2 (by decide) (K_semi hS.2.1)) (fun v u4 v2 w4 q => ?_)
  obtain ⟨q1, q2, q3, q4⟩ := q
  have q1 : v = v2 := q1
  by_cases hv : v = 0
  · rw [if_pos hv, if_pos (q1 ▸ hv)]
    exact rel_some ⟨rfl, pb0, fun _ => q3 hv, fun e => absurd c0e0 e⟩
  rw [if_neg hv, if_neg (fun e => hv (q1.trans e))]
  obtain ⟨x1, x2, x3, x4⟩ := q4 hv
  refine rel_some ⟨rfl, pb1, fun e => absurd e c1n0, fun _ => ⟨_, ?_, x1, x2, ?_⟩⟩
  · omega
  · obtain ⟨m0, m1, m2, m3, m4, m5⟩ := y3
    refine ⟨m0, ?_, ?_, ?_, ?_, fun k hk => ?_⟩
    · rw [x3.2.1 60 (by omega)]; exact m1
    · rw [x3.2.1 60 (by omega)]; exact m2
    · rw [x3.2.1 60 (by omega)]; exact m3
    · rw [x4.2.2 14 (by omega) (by omega) (by omega) (by omega)]; exact m4
    · rw [x3.2.1 (60 + 1) (by omega), x4.2.1 94 (by omega)]; exact m5 k (by omega)
end TEXT
end
end
/-! 5o.whole -/
section
noncomputable section
/-! SHIFTS; a whole text -/
section WHOLE
variable {T : Nat → Int32} {len r m : Nat} {B : Nat → Nat}
theorem S_shift {i R : Nat} {a b : mG} (hS : ST T len 2 m B) (h1 : CP T len m B i a) (h2 : RP T len 2 m B i b) (hk : a.1 55 14 = c16 278) (hR : RWs 62 4 12 R a b) (hR12 : R < 12) : rel (F_X7_readShift a) (F_X12_aShift b) (RQ T len 2 m B 62 4 12 R i) := by
  obtain ⟨l0, l1, l2, l3, l4, l5⟩ := hR
  unfold F_X7_readShift F_X7_readHead F_X7_readHead_30 F_X7_readShift_97 F_X12_aShift F_X12_aShift_90
  rw [if_pos hk, V_add l1 l3 (by decide) hR12, b2_some, if_neg (by
    intro q
    have q := r_eq (t_cn (n := R) (by omega)) t_cm1 q
    omega), b2_some, if_neg c1n0]
  have c1 : CP T len m B i (mu a.1 62 3 (cn (R + 1)), a.2) := CP_rows h1 (mu_rowQ (by omega)) (mu_rowQ (by omega)) (mu_rowQ (by omega))
  have r0 : RW2 62 4 12 R (4 * R + 0) (mu a.1 62 3 (cn (R + 1)), a.2) b := by
    refine ⟨hR12, ?_, ?_, ?_, l4, fun k hk => ?_⟩
    · exact (mu_cellQ (by omega)).trans l1
    · exact (mu_cellQ (by omega)).trans l2
    · exact mu_sameQ
    · exact (congrFun (mu_rowQ (by omega)) k).trans (l5 k (by omega))
  have e0 : (ci 4) * b.1 88 14 = cn (4 * R + 0) := by rw [l4, Nat.add_zero]; exact cn_mul (a := 4) (by omega) (by omega) (by omega)

  refine rel_b2 (S_named (c := 0) hS (Or.inr ⟨rfl, rfl, rfl⟩) c1 h2 (by decide) (fun h => K_word.2.2.2.1 h) (by omega) rfl e0 r0) (fun v u0 v2 w0 q => ?_)
  obtain ⟨q1, q2, q3, q4⟩ := q
  have q1 : v = v2 := q1
  by_cases hv : v = 0
  · rw [if_pos hv, if_pos (q1 ▸ hv)]
    exact rel_some ⟨rfl, pb0, fun _ => q3 hv, fun e => absurd c0e0 e⟩
  rw [if_neg hv, if_neg (fun e => hv (q1.trans e))]
  obtain ⟨f0a, f0b, f0c⟩ := q4 hv
  have e1 : (ci 4) * w0.1 88 14 + ci 1 = cn (4 * R + 1) := by
    rw [f0c.2.2.2.2.1, show (ci 4) * cn R = cn (4 * R) from cn_mul (a := 4) (by omega) (by omega) (by omega)]
    exact cn_add (b := 1) (by omega)
  refine rel_b2 (S_named (c := 1) hS (Or.inr ⟨rfl, rfl, rfl⟩) f0a f0b (by decide) (fun h => K_word.2.2.2.2.1 h) (by omega) rfl e1 f0c) (fun v u1 v2 w1 q => ?_)
  obtain ⟨q1, q2, q3, q4⟩ := q
  have q1 : v = v2 := q1
  by_cases hv : v = 0
  · rw [if_pos hv, if_pos (q1 ▸ hv)]
    exact rel_some ⟨rfl, pb0, fun _ => q3 hv, fun e => absurd c0e0 e⟩
  rw [if_neg hv, if_neg (fun e => hv (q1.trans e))]
  obtain ⟨f1a, f1b, f1c⟩ := q4 hv
  have e2 : (ci 4) * w1.1 88 14 + ci 2 = cn (4 * R + 2) := by
    rw [f1c.2.2.2.2.1, show (ci 4) * cn R = cn (4 * R) from cn_mul (a := 4) (by omega) (by omega) (by omega)]
    exact cn_add (b := 2) (by omega)
  refine rel_b2 (S_named (c := 2) hS (Or.inr ⟨rfl, rfl, rfl⟩) f1a f1b (by decide) (fun h => K_word.2.2.2.2.2.1 h) (by omega) rfl e2 f1c) (fun v u2 v2 w2 q => ?_)
  obtain ⟨q1, q2, q3, q4⟩ := q
  have q1 : v = v2 := q1
  by_cases hv : v = 0
  · rw [if_pos hv, if_pos (q1 ▸ hv)]
    exact rel_some ⟨rfl, pb0, fun _ => q3 hv, fun e => absurd c0e0 e⟩
  rw [if_neg hv, if_neg (fun e => hv (q1.trans e))]
  obtain ⟨f2a, f2b, f2c⟩ := q4 hv
  have e3 : (ci 4) * w2.1 88 14 + ci 3 = cn (4 * R + 3) := by
    rw [f2c.2.2.2.2.1, show (ci 4) * cn R = cn (4 * R) from cn_mul (a := 4) (by omega) (by omega) (by omega)]
    exact cn_add (b := 3) (by omega)
  refine rel_b2 (S_named (c := 3) hS (Or.inr ⟨rfl, rfl, rfl⟩) f2a f2b (by decide) (fun h => K_word.2.2.2.2.2.2 h) (by omega) rfl e3 f2c) (fun v u3 v2 w3 q => ?_)
  obtain ⟨q1, q2, q3, q4⟩ := q
  have q1 : v = v2 := q1
  by_cases hv : v = 0
  · rw [if_pos hv, if_pos (q1 ▸ hv)]
    exact rel_some ⟨rfl, pb0, fun _ => q3 hv, fun e => absurd c0e0 e⟩
  rw [if_neg hv, if_neg (fun e => hv (q1.trans e))]
  obtain ⟨f3a, f3b, f3c⟩ := q4 hv
  refine rel_b2 (S_pass0 hS f3a f3b (by decide) (K_semi hS.2.1)) (fun v u4 v2 w4 q => ?_)
  obtain ⟨q1, q2, q3, q4⟩ := q
  have q1 : v = v2 := q1
  by_cases hv : v = 0
  · rw [if_pos hv, if_pos (q1 ▸ hv)]
    exact rel_some ⟨rfl, pb0, fun _ => q3 hv, fun e => absurd c0e0 e⟩
  rw [if_neg hv, if_neg (fun e => hv (q1.trans e))]
  obtain ⟨x1, x2, x3, x4⟩ := q4 hv
  refine rel_some ⟨rfl, pb1, fun e => absurd e c1n0, fun _ => ⟨_, ?_, x1, x2, ?_⟩⟩
  · omega
  · obtain ⟨m0, m1, m2, m3, m4, m5⟩ := f3c
    refine ⟨m0, ?_, ?_, ?_, ?_, fun k hk => ?_⟩
    · rw [x3.2.1 62 (by omega)]; exact m1
    · rw [x3.2.1 62 (by omega)]; exact m2
    · rw [x3.2.1 62 (by omega)]; exact m3
    · rw [x4.2.2 14 (by omega) (by omega) (by omega) (by omega)]; exact m4
    · rw [x3.2.1 (62 + 1) (by omega), x4.2.1 94 (by omega)]; exact m5 k (by omega)
/-- the head of a row refused -/
theorem S_headNo {i : Nat} {w : Int32} {a b : mG} {INV : Nat → mG → mG → Prop} (hS : ST T len r m B) (h1 : CP T len m B i a) (h2 : RP T len r m B i b) {F : mG → Option (Int32 × mG)} (hF : F a = some (ci 0, (mu (mu a.1 55 10 w) 55 11 (a.1 55 16), a.2))) : rel (F a) (b2 (F_X12_bad w b) fun v11 s10 => if v11 = 0 ∨ v11 = 1 then (some (Sum.inr (v11, s10)) : Option ((Int32 × mG) ⊕ (Int32 × mG))) else none) (ROWP INV i) := by
  have g := (PR_facts hS h1 h2).2.1
  rw [hF, V_bad, b2_some, if_pos pbo0]
  refine rel_some (Or.inl ⟨c0e0, _, Or.inl rfl, ?_, ?_⟩)
  · exact ((mu_cellQ (by omega)).trans mu_same).trans ((mu_cellQ (by omega)).trans mu_same).symm
  · exact mu_sameQ.trans (g.trans mu_sameQ.symm)
/-- a row read, and counted -/
theorem S_93 {t W M R i : Nat} {x y : Option (Int32 × mG)} (hM : M < 100) (hW : W * R + W = W * (R + 1)) (ht : t = 60 ∨ t = 62) (h : rel x y (RQ T len r m B t W M R i)) : rel x (b2 y fun v16 s15 => F_X12_readsRows_93 v16 s15) (ROWP (INVR T len r m B t W M) i) := by
  intro τ hτ z hz
  obtain ⟨v16, s15, e15, hz⟩ := m_b2 hz
  obtain ⟨q1, q2, q3, q4⟩ := h τ hτ (v16, s15) e15
  have q1 : τ.1 = v16 := q1
  unfold F_X12_readsRows_93 F_X12_readsRows_108 at hz
  by_cases hv : v16 = 0
  · rw [if_pos hv] at hz
    have hz := Option.some.inj hz
    subst hz
    have f := q3 (q1.trans hv)
    refine Or.inl ⟨q1.trans hv, _, Or.inr (by rw [hv, show (0 : Int32) = ci 0 by decide]), ?_⟩
    exact ⟨f.1.trans (mu_cellQ (by omega)).symm, f.2.trans (mu_cellQ (by omega)).symm⟩
  · rw [if_neg hv] at hz
    have hz := Option.some.inj hz
    subst hz
    have hne : ¬ τ.1 = 0 := fun e => hv (q1.symm.trans e)
    obtain ⟨i', z1, z2, z3, z4⟩ := q4 hne
    have hv1 : v16 = ci 1 := (q1.symm.trans (q2.resolve_left hne)).trans (by decide)
    obtain ⟨m0, m1, m2, m3, m4, m5⟩ := z4
    have m4 : s15.1 88 14 = cn R := m4
    refine Or.inr ⟨hne, (mu s15.1 88 14 (s15.1 88 14 + ci 1), s15.2), by rw [hv1], i', z1, z2, RP_same z3 (mu_rowQ (by omega)) (fun c hc => mu_cellQ (by omega)), R + 1, by omega, m1, m2, m3, ?_, fun k hk => ?_⟩
    · refine mu_sameQ.trans ?_
      rw [m4]
      exact cnu (by omega)
    · rw [show ((mu s15.1 88 14 (s15.1 88 14 + ci 1), s15.2) : mG).1 94 = s15.1 94 from mu_rowQ (by omega)]
      exact m5 k (by omega)

theorem S_signLoop {i x : Nat} {a b : mG} (hS : ST T len 1 m B) (hx : x ≤ i) (h : INVR T len 1 m B 60 2 6 i a b) : rel (F_X7_readText_L64 (ci 1) (cn x) a) (F_X12_readsRows_L7 (ci 1) b) (TXP (INVR T len 1 m B 60 2 6) m) := by
  refine S_loop (rdc := F_X7_readSign) (rdr := fun b => F_X12_readsRows_37 (b.1 88 17) (c8 7) b) (INVR T len 1 m B 60 2 6) hS (Or.inr (Or.inl ⟨by decide, rfl, rfl⟩)) (fun i a b h => ⟨h.1, h.2.1⟩) (fun i a b h => ?_) (fun b => ?_) (fun i a b h hi => ?_) (m - i) i x a b (Nat.le_refl _) hx h
  · rw [RR_bw]
    unfold F_X12_readsRows_B7 F_X12_readsRows_115
    have e11 : b.1 88 11 = ci 1 := h.2.1.2.2.1.1
    rw [if_neg c1n0, bw_if, bw_b1r, if_pos pbo1, if_pos e11]
  · rw [RR_bw]
    unfold F_X12_readsRows_B7 F_X12_readsRows_115
    rw [if_pos c0e0, bw_b1r, if_pos pbo0]
  · obtain ⟨h1, h2, R, hR⟩ := h
    have hK := (PR_facts hS h1 h2).1
    have e11 : b.1 88 11 = ci 1 := h2.2.2.1.1
    unfold F_X12_readsRows_37
    by_cases hk : a.1 55 14 = c16 275
    · have hw : b.1 88 17 = c8 7 := (K_word.1 hK).mpr hk
      unfold F_X12_readsRows_65
      rw [if_pos hw]
      have hRl := hR
      obtain ⟨l0, l1, l2, l3, l4, l5⟩ := hRl
      by_cases h6 : R < 6
      · have n6 : ¬ b.1 88 14 = c8 6 := by
          rw [l4]
          intro q
          have q := (cn_inj (a := R) (b := 6) (by omega) (by omega)).mp (q.trans (by decide))
          omega
        rw [if_pos e11, if_pos e11, if_neg n6]
        exact S_93 (by omega) (by omega) (Or.inl rfl) (S_sign hS h1 h2 hk hR h6)
      · have n6 : b.1 88 14 = c8 6 := by rw [l4, show R = 6 by omega]; decide
        rw [if_pos e11, if_pos n6]
        refine S_headNo hS h1 h2 ?_
        unfold F_X7_readSign F_X7_readHead 
        rw [if_pos hk, V_add1 l1 l3 (by omega) (by decide) h6, b2_some, if_pos rfl, V_refuse, b2_some, if_pos c0e0, b2_some, if_pos c0e0]
    · have hw : ¬ b.1 88 17 = c8 7 := fun q => hk ((K_word.1 hK).mp q)
      rw [if_neg hw]
      refine S_headNo hS h1 h2 ?_
      unfold F_X7_readSign F_X7_readHead 
      rw [if_neg hk, V_refuse, b2_some, if_pos pbo0, b2_some, if_pos c0e0]

theorem S_shiftLoop {i x : Nat} {a b : mG} (hS : ST T len 2 m B) (hx : x ≤ i) (h : INVR T len 2 m B 62 4 12 i a b) : rel (F_X7_readText_L64 (ci 2) (cn x) a) (F_X12_readsRows_L7 (ci 1) b) (TXP (INVR T len 2 m B 62 4 12) m) := by
  refine S_loop (rdc := F_X7_readShift) (rdr := fun b => F_X12_readsRows_37 (b.1 88 17) (c8 10) b) (INVR T len 2 m B 62 4 12) hS (Or.inr (Or.inr ⟨by decide, by decide, rfl⟩)) (fun i a b h => ⟨h.1, h.2.1⟩) (fun i a b h => ?_) (fun b => ?_) (fun i a b h hi => ?_) (m - i) i x a b (Nat.le_refl _) hx h
  · rw [RR_bw]
    unfold F_X12_readsRows_B7 F_X12_readsRows_115
    have e11 : b.1 88 11 = ci 2 := h.2.1.2.2.1.1
    rw [if_neg c1n0, bw_if, bw_b1r, if_pos pbo1, if_neg (show ¬ b.1 88 11 = ci 1 by rw [e11]; decide)]
  · rw [RR_bw]
    unfold F_X12_readsRows_B7 F_X12_readsRows_115
    rw [if_pos c0e0, bw_b1r, if_pos pbo0]
  · obtain ⟨h1, h2, R, hR⟩ := h
    have hK := (PR_facts hS h1 h2).1
    have e11 : b.1 88 11 = ci 2 := h2.2.2.1.1
    unfold F_X12_readsRows_37
    by_cases hk : a.1 55 14 = c16 278
    · have hw : b.1 88 17 = c8 10 := (K_word.2.2.2.1 hK).mpr hk
      unfold F_X12_readsRows_65
      rw [if_pos hw]
      have hRl := hR
      obtain ⟨l0, l1, l2, l3, l4, l5⟩ := hRl
      by_cases h6 : R < 12
      · have n6 : ¬ b.1 88 14 = c8 12 := by
          rw [l4]
          intro q
          have q := (cn_inj (a := R) (b := 12) (by omega) (by omega)).mp (q.trans (by decide))
          omega
        rw [if_neg (show ¬ b.1 88 11 = ci 1 by rw [e11]; decide), if_neg (show ¬ b.1 88 11 = ci 1 by rw [e11]; decide), if_neg n6]
        exact S_93 (by omega) (by omega) (Or.inr rfl) (S_shift hS h1 h2 hk hR h6)
      · have n6 : b.1 88 14 = c8 12 := by rw [l4, show R = 12 by omega]; decide
        rw [if_neg (show ¬ b.1 88 11 = ci 1 by rw [e11]; decide), if_pos n6]
        refine S_headNo hS h1 h2 ?_
        unfold F_X7_readShift F_X7_readHead F_X7_readShift_97
        rw [if_pos hk, V_add1 l1 l3 (by omega) (by decide) h6, b2_some, if_pos rfl, V_refuse, b2_some, if_pos c0e0, b2_some, if_pos c0e0]
    · have hw : ¬ b.1 88 17 = c8 10 := fun q => hk ((K_word.2.2.2.1 hK).mp q)
      rw [if_neg hw]
      refine S_headNo hS h1 h2 ?_
      unfold F_X7_readShift F_X7_readHead F_X7_readShift_97
      rw [if_neg hk, V_refuse, b2_some, if_pos pbo0, b2_some, if_pos c0e0]

end WHOLE
end
end
/-! 5p.keeps -/
section
noncomputable section
/-! WHERE NOTHING IS REFUSED THE OLD FAULT STANDS (the class) -/
def KT (z s : mG) : Prop := s.1 55 10 = z.1 55 10 ∧ s.1 55 11 = z.1 55 11
def KB2 (z : mG) (τ : Int32 × mG) : Prop := τ.1 = 0 ∨ KT z τ.2
theorem KT_mu {z s : mG} {i k : Nat} {v : Int32} (h : KT z s) (d : i ≠ 55 ∨ (k ≠ 10 ∧ k ≠ 11)) : KT z (mu s.1 i k v, s.2) := ⟨(mu_cellQ (by omega)).trans h.1, (mu_cellQ (by omega)).trans h.2⟩
theorem KT_row {z s u : mG} (h : KT z s) (e : u.1 55 = s.1 55) : KT z u := by
  unfold KT
  rw [e]; exact h
theorem kt_put {t : Nat} {z s : mG} {a b c : Int32} (ht : t + 1 ≠ 55) (h : KT z s) : pk (F_X10_put t a b c s) (KT z) := fun u hu => KT_row h (V_putF u hu 55 (fun e => ht e.symm))
theorem kt_push {z s : mG} {a : Int32} (h : KT z s) : pk (F_X10_push 58 a s) (KT z) := by
  unfold F_X10_push
  refine pk_ite (pk_some h) ?_
  exact pk_b1 (kt_put (z := z) (by omega) (KT_mu h (Or.inl (by omega)))) (fun u hu => pk_some hu)
theorem kt_step {z s : mG} (h : KT z s) : pk (F_X7_stepOn s) (KT z) := by
  unfold F_X7_stepOn
  refine pk_b1 pk_top (fun _ _ => pk_b1 pk_top (fun _ _ => pk_b1 pk_top (fun _ _ => pk_some ?_)))
  exact KT_mu (KT_mu (KT_mu (KT_mu h (Or.inr (by omega))) (Or.inr (by omega))) (Or.inr (by omega))) (Or.inr (by omega))
theorem kt_ref {s : mG} {w : Int32} : pk (F_X7_refuse w s) (fun τ => τ.1 = 0) := by
  rw [V_refuse]; exact pk_some c0e0
theorem kt_refb {z s : mG} {w : Int32} : pk (b2 (F_X7_refuse w s) fun v s => if v = 0 ∨ v = 1 then some (v, s) else none) (KB2 z) := pk_b2 kt_ref (fun _ _ q => pk_pp (pk_some (Or.inl q)))
theorem kt_pass {z s : mG} {w : Int32} (h : KT z s) : pk (F_X7_pass w s) (KB2 z) := by
  unfold F_X7_pass
  exact pk_ite (pk_b1 (kt_step h) (fun u hu => pk_some (Or.inr hu))) kt_refb
theorem kt_emit {z s : mG} {w : Int32} (h : KT z s) : pk (F_X7_emitIfAny w s) (KT z) := by
  unfold F_X7_emitIfAny
  exact pk_ite (pk_some h) (pk_b1 (kt_push h) (fun u hu => pk_some hu))
theorem kt_unit {z s : mG} (h : KT z s) : pk (F_X7_readUnit s) (KB2 z) := by
  have go : ∀ u, KT z u → pk (F_X7_readUnit_68 u) (KB2 z) := fun u hu => by
    unfold F_X7_readUnit_68
    exact pk_b1 (kt_step hu) (fun u hu => pk_some (Or.inr hu))
  unfold F_X7_readUnit F_X7_readUnit_62
  exact pk_ite (pk_b1 (kt_push h) (fun u hu => go u hu)) (pk_ite kt_refb (pk_ite kt_refb (pk_b1 (kt_push h) (fun u hu => go u hu))))
theorem kt_part {z s : mG} (h : KT z s) : pk (F_X7_readPart s) (KB2 z) := by
  unfold F_X7_readPart
  exact pk_ite (pk_ite kt_refb (pk_b1 (kt_push h) (fun u hu => pk_b1 (kt_step hu) (fun u hu => pk_some (Or.inr hu))))) kt_refb
theorem kt_105 {z s : mG} {x1 x2 y : Int32} (h : KT z s) : pk (F_X7_readSum_105 x1 x2 y s) (se (fun v => KT z v.2.2) (KB2 z)) := by
  unfold F_X7_readSum_105
  exact pk_b1 (kt_emit h) (fun u hu => pk_some (show KT z u from hu))
theorem kt_68 {z s : mG} {x1 x2 x3 : Int32} (h : KT z s) : pk (F_X7_readSum_68 x1 x2 x3 s) (se (fun v => KT z v.2.2) (KB2 z)) := by
  have go : ∀ v u, KB2 z (v, u) → pk (if v = 0 then b1 (F_X7_readSum_91 u) fun τ => some (Sum.inr τ) else F_X7_readSum_93 x1 x2 x3 u) (se (fun v => KT z v.2.2) (KB2 z)) := fun v u q => by
    by_cases hv : v = 0
    · rw [if_pos hv]; exact pk_b1r (pk_some (Or.inl c0e0))
    · rw [if_neg hv]
      have hu : KT z u := q.resolve_left hv
      unfold F_X7_readSum_93
      exact pk_ite (kt_105 hu) (kt_105 hu)
  unfold F_X7_readSum_68
  exact pk_ite (pk_b2 (kt_part h) go) (pk_b2 (kt_unit h) go)
theorem kt_51 {z s : mG} {x1 x2 x3 : Int32} (h : KT z s) : pk (F_X7_readSum_51 x1 x2 x3 s) (se (fun v => KT z v.2.2) (KB2 z)) := by
  unfold F_X7_readSum_51 F_X7_readSum_67
  exact pk_b1 (kt_emit h) (fun u hu => pk_ite (kt_68 hu) (kt_68 hu))
theorem kt_sum {z s : mG} (h : KT z s) : pk (F_X7_readSum s) (KB2 z) := by
  unfold F_X7_readSum
  refine pk_b2 (kt_unit h) (fun v u q => ?_)
  by_cases hv : v = 0
  · rw [if_pos hv]; exact pk_some (Or.inl c0e0)
  rw [if_neg hv]
  have hu : KT z u := q.resolve_left hv
  unfold F_X7_readSum_L13
  refine pk_whl (fun v => KT z v.2.2) hu (fun v hv => ?_)
  obtain ⟨x1, x2, w⟩ := v
  have hw : KT z w := hv
  have e114 : pk (F_X7_readSum_114 x1 w) (KB2 z) := by
    unfold F_X7_readSum_114
    exact pk_b1 (kt_emit hw) (fun u hu => pk_some (Or.inr hu))
  unfold F_X7_readSum_B13
  exact pk_ite (pk_b1r e114) (pk_b1 pk_top (fun _ _ => pk_ite (pk_b1r e114) (pk_b1 (kt_step hw) (fun u hu => pk_ite (kt_51 hu) (pk_ite (kt_51 hu) (kt_68 hu))))))
theorem kt_hold {z s : mG} {x : Int32} (h : KT z s) : pk (F_X7_hold x s) (KT z) := by
  unfold F_X7_hold
  refine pk_b1 (P := fun u => u.1 55 = s.1 55) (fun u hu => ?_) (fun u hu => pk_some (KT_mu (KT_row h hu) (Or.inr (by omega))))
  obtain ⟨w, h1, h2, h3⟩ := X11_put_tot (show SH[67]? = some (.inl (0, 64, [])) by decide +kernel) s (s.1 55 7) x
  rw [h1] at hu
  exact Option.some.inj hu ▸ h3 55 (by decide)
theorem kt_opens {z s : mG} (h : KT z s) : pk (F_X7_readOpenings s) (KB2 z) := by
  unfold F_X7_readOpenings F_X7_readOpenings_L2
  refine pk_whl (fun v => KT z v.2) h (fun v hv => ?_)
  obtain ⟨x1, w⟩ := v
  have hw : KT z w := hv
  have e28 : pk (F_X7_readOpenings_28 x1 w) (se (fun v => KT z v.2) (KB2 z)) := by
    unfold F_X7_readOpenings_28
    exact pk_ite (pk_b1 (kt_hold hw) (fun u hu => pk_b1 (kt_step (KT_mu hu (Or.inr (by omega)))) (fun u hu => pk_some (show KT z u from hu)))) (pk_b2 kt_ref (fun _ _ q => pk_pp (pk_some (Or.inl q))))
  unfold F_X7_readOpenings_B2 F_X7_readOpenings_71
  exact pk_ite (pk_b1r (pk_some (Or.inr hw))) (pk_ite e28 (pk_ite e28 (pk_b1r (pk_some (Or.inr hw)))))
theorem kt_close {z s : mG} (h : KT z s) : pk (F_X7_closeNots s) (KT z) := by
  unfold F_X7_closeNots F_X7_closeNots_L2
  refine pk_whl (fun v => KT z v.2) h (fun v hv => ?_)
  obtain ⟨x1, w⟩ := v
  have hw : KT z w := hv
  unfold F_X7_closeNots_B2
  exact pk_ite (pk_some hw) (pk_b1 pk_top (fun _ _ => pk_ite (pk_b1 (kt_push hw) (fun u hu => pk_some (show KT z _ from KT_mu (KT_mu hu (Or.inr (by omega))) (Or.inr (by omega))))) (pk_some hw)))
theorem kt_join {z s : mG} {x : Int32} (h : KT z s) : pk (F_X7_joinWhatWaits x s) (KT z) := by
  unfold F_X7_joinWhatWaits F_X7_joinWhatWaits_L2
  refine pk_whl (fun v => KT z v.2.2) h (fun v hv => ?_)
  obtain ⟨x1, x2, w⟩ := v
  have hw : KT z w := hv
  have e50 : ∀ y, pk (F_X7_joinWhatWaits_50 x1 x2 y w) (se (fun v => KT z v.2.2) (KT z)) := fun y => by
    unfold F_X7_joinWhatWaits_50
    exact pk_b1 (kt_push hw) (fun u hu => pk_some (show KT z _ from KT_mu hu (Or.inr (by omega))))
  have e32 : ∀ y, pk (F_X7_joinWhatWaits_32 x1 x2 y w) (se (fun v => KT z v.2.2) (KT z)) := fun y => by
    unfold F_X7_joinWhatWaits_32
    exact pk_ite (e50 _) (e50 _)
  unfold F_X7_joinWhatWaits_B2
  exact pk_ite (pk_some hw) (pk_b1 pk_top (fun _ _ => pk_ite (e32 _) (pk_ite (pk_ite (e32 _) (pk_some hw)) (pk_some hw))))
theorem kt_closings {z s : mG} (h : KT z s) : pk (F_X7_readClosings s) (KT z) := by
  unfold F_X7_readClosings
  refine pk_b1 (kt_close h) (fun u hu => ?_)
  unfold F_X7_readClosings_L6
  refine pk_whl (fun v => KT z v.2) hu (fun v hv => ?_)
  obtain ⟨x1, w⟩ := v
  have hw : KT z w := hv
  unfold F_X7_readClosings_B6
  exact pk_ite (pk_some hw) (pk_ite (pk_ite (pk_some hw) (pk_b1 (kt_join hw) (fun u hu => pk_b1 (kt_step (KT_mu (KT_mu hu (Or.inr (by omega))) (Or.inr (by omega)))) (fun u hu => pk_b1 (kt_close hu) (fun u hu => pk_some (show KT z u from hu)))))) (pk_some hw))
theorem kt_cond {z s : mG} (h : KT z s) : pk (F_X7_readCondition s) (KB2 z) := by
  unfold F_X7_readCondition F_X7_readCondition_L12
  refine pk_whl (fun v => KT z v.2) (show KT z _ from KT_mu (KT_mu h (Or.inr (by omega))) (Or.inr (by omega))) (fun v hv => ?_)
  obtain ⟨x1, w⟩ := v
  have hw : KT z w := hv
  have e140 : ∀ u, KT z u → pk (F_X7_readCondition_140 x1 u) (se (fun v => KT z v.2) (KB2 z)) := fun u hu => by
    unfold F_X7_readCondition_140
    exact pk_b1 (kt_hold hu) (fun u hu => pk_b1 (kt_step hu) (fun u hu => pk_some (show KT z u from hu)))
  have e96 : ∀ y u, KT z u → pk (F_X7_readCondition_96 x1 y u) (se (fun v => KT z v.2) (KB2 z)) := fun y u hu => by
    unfold F_X7_readCondition_96 F_X7_readCondition_134
    refine pk_b1 (kt_join hu) (fun u hu => pk_ite (e140 u hu) (pk_ite (e140 u hu) (pk_ite (pk_b1r (pk_some (Or.inr hu))) ?_)))
    refine pk_b2 kt_ref (fun v s q => ?_)
    have q : v = 0 := q
    rw [if_pos q]
    exact pk_some (Or.inl c0e0)
  unfold F_X7_readCondition_B12 F_X7_readCondition_33
  refine pk_ite (pk_some (Or.inl c0e0)) (pk_b2 (kt_opens hw) (fun v u q => ?_))
  by_cases hv : v = 0
  · rw [if_pos hv]; exact pk_b1r (pk_some (Or.inl c0e0))
  rw [if_neg hv]
  refine pk_b2 (kt_sum (q.resolve_left hv : KT z u)) (fun v u q => ?_)
  by_cases hv : v = 0
  · rw [if_pos hv]; exact pk_b1r (pk_some (Or.inl c0e0))
  rw [if_neg hv]
  have hu : KT z u := q.resolve_left hv
  refine pk_b1 pk_top (fun y _ => pk_ite (pk_b2 kt_ref (fun _ _ q => pk_pp (pk_some (Or.inl q)))) (pk_b1 (kt_step hu) (fun u hu => pk_b2 (kt_sum hu) (fun v u q => ?_))))
  by_cases hv : v = 0
  · rw [if_pos hv]; exact pk_some (Or.inl c0e0)
  rw [if_neg hv]
  exact pk_b1 (kt_push (q.resolve_left hv : KT z u)) (fun u hu => pk_b1 (kt_closings hu) (fun u hu => pk_ite (e96 _ u hu) (e96 _ u hu)))
theorem kt_add {t : Nat} {z s : mG} (ht : t ≠ 55) (h : KT z s) : pk (F_X10_add t s) (fun τ => KT z τ.2) := by
  unfold F_X10_add
  exact pk_b1 pk_top (fun _ _ => pk_ite (pk_some (KT_mu h (Or.inl ht))) (pk_some h))
theorem kt_law {z s : mG} (h : KT z s) : pk (F_X7_readLaw s) (KB2 z) := by
  have e126 : ∀ x u, KT z u → pk (F_X7_readLaw_126 x u) (KB2 z) := fun x u hu => by
    unfold F_X7_readLaw_126
    exact pk_b1 (kt_put (z := z) (by omega) hu) (fun u hu => pk_b2 (kt_pass hu) (fun v u q => pk_pp (pk_some q)))
  unfold F_X7_readLaw
  refine pk_b1 pk_top (fun _ _ => pk_ite kt_refb (pk_b2 (kt_add (by omega) h) (fun x u hu => pk_ite kt_refb ?_)))
  refine pk_b1 (kt_put (z := z) (by omega) hu) (fun u hu => pk_b1 (kt_put (z := z) (by omega) hu) (fun u hu => pk_b1 (kt_step hu) (fun u hu => pk_b2 (kt_sum hu) (fun v u q => ?_))))
  by_cases hv : v = 0
  · rw [if_pos hv]; exact pk_some (Or.inl c0e0)
  rw [if_neg hv]
  have hu : KT z u := q.resolve_left hv
  refine pk_b1 (kt_put (z := z) (by omega) hu) (fun u hu => pk_ite (pk_b1 (kt_step hu) (fun u hu => pk_b2 (kt_cond hu) (fun v u q => ?_))) (e126 _ u hu))
  by_cases hv : v = 0
  · rw [if_pos hv]; exact pk_some (Or.inl c0e0)
  rw [if_neg hv]
  exact e126 _ u (q.resolve_left hv)
theorem kt_named {t : Nat} {z s : mG} {x lo hi c : Int32} (ht : t + 1 ≠ 55) (h : KT z s) : pk (F_X7_readNamed t x lo hi c s) (KB2 z) := by
  unfold F_X7_readNamed
  refine pk_b2 (kt_pass h) (fun v u q => ?_)
  by_cases hv : v = 0
  · rw [if_pos hv]; exact pk_some (Or.inl c0e0)
  rw [if_neg hv]
  have hu : KT z u := q.resolve_left hv
  exact pk_ite (pk_b1 pk_top (fun _ _ => pk_ite kt_refb (pk_b1 (kt_put (z := z) ht hu) (fun u hu => pk_b1 (kt_step hu) (fun u hu => pk_some (Or.inr hu)))))) kt_refb
theorem kt_head {t : Nat} {z s : mG} {x : Int32} (ht : t ≠ 55) (h : KT z s) : pk (F_X7_readHead t x s) (KB2 z) := by
  unfold F_X7_readHead F_X7_readHead_30
  refine pk_ite (pk_b2 (kt_add ht h) (fun x u hu => pk_ite (pk_b2 kt_ref (fun v s q => ?_)) (pk_some (Or.inr hu)))) kt_refb
  have q : v = 0 := q
  rw [if_pos q]
  exact pk_some (Or.inl c0e0)
theorem kt_sign {z s : mG} (h : KT z s) : pk (F_X7_readSign s) (KB2 z) := by
  unfold F_X7_readSign F_X7_readSign_71
  refine pk_b2 (kt_head (by omega) h) (fun v u q => ?_)
  by_cases hv : v = 0
  · rw [if_pos hv]; exact pk_some (Or.inl c0e0)
  rw [if_neg hv]
  refine pk_b1 (kt_step (q.resolve_left hv : KT z u)) (fun u hu => pk_b2 (kt_named (by omega) hu) (fun v u q => ?_))
  by_cases hv : v = 0
  · rw [if_pos hv]; exact pk_some (Or.inl c0e0)
  rw [if_neg hv]
  refine pk_b2 (kt_named (by omega) (q.resolve_left hv : KT z u)) (fun v u q => ?_)
  by_cases hv : v = 0
  · rw [if_pos hv]; exact pk_some (Or.inl c0e0)
  rw [if_neg hv]
  refine pk_b2 (kt_pass (q.resolve_left hv : KT z u)) (fun v u q => ?_)
  by_cases hv : v = 0
  · rw [if_pos hv]; exact pk_some (Or.inl c0e0)
  rw [if_neg hv]
  exact pk_some (Or.inr (q.resolve_left hv : KT z u))
theorem kt_shift {z s : mG} (h : KT z s) : pk (F_X7_readShift s) (KB2 z) := by
  unfold F_X7_readShift F_X7_readShift_97
  refine pk_b2 (kt_head (by omega) h) (fun v u q => ?_)
  by_cases hv : v = 0
  · rw [if_pos hv]; exact pk_some (Or.inl c0e0)
  rw [if_neg hv]
  refine pk_b2 (kt_named (by omega) (q.resolve_left hv : KT z u)) (fun v u q => ?_)
  by_cases hv : v = 0
  · rw [if_pos hv]; exact pk_some (Or.inl c0e0)
  rw [if_neg hv]
  refine pk_b2 (kt_named (by omega) (q.resolve_left hv : KT z u)) (fun v u q => ?_)
  by_cases hv : v = 0
  · rw [if_pos hv]; exact pk_some (Or.inl c0e0)
  rw [if_neg hv]
  refine pk_b2 (kt_named (by omega) (q.resolve_left hv : KT z u)) (fun v u q => ?_)
  by_cases hv : v = 0
  · rw [if_pos hv]; exact pk_some (Or.inl c0e0)
  rw [if_neg hv]
  refine pk_b2 (kt_named (by omega) (q.resolve_left hv : KT z u)) (fun v u q => ?_)
  by_cases hv : v = 0
  · rw [if_pos hv]; exact pk_some (Or.inl c0e0)
  rw [if_neg hv]
  refine pk_b2 (kt_pass (q.resolve_left hv : KT z u)) (fun v u q => ?_)
  by_cases hv : v = 0
  · rw [if_pos hv]; exact pk_some (Or.inl c0e0)
  rw [if_neg hv]
  exact pk_some (Or.inr (q.resolve_left hv : KT z u))
theorem kt_loop {z s : mG} {k x : Int32} (h : KT z s) : pk (F_X7_readText_L64 k x s) (KB2 z) := by
  unfold F_X7_readText_L64
  refine pk_whl (fun v => KT z v.2.2) h (fun v hv => ?_)
  obtain ⟨x1, x2, w⟩ := v
  have hw : KT z w := hv
  have e106 : ∀ v u, KB2 z (v, u) → pk (F_X7_readText_106 x1 x2 v u) (se (fun v => KT z v.2.2) (KB2 z)) := fun v u q => by
    unfold F_X7_readText_106
    by_cases hv : v = 0
    · rw [if_pos hv]; exact pk_some (Or.inl c0e0)
    · rw [if_neg hv]; exact pk_some (show KT z u from q.resolve_left hv)
  unfold F_X7_readText_B64 F_X7_readText_119
  exact pk_ite (pk_b1r (pk_some (Or.inr hw))) (pk_ite (pk_b1r (pk_some (Or.inr hw))) (pk_ite (pk_b2 (kt_law hw) e106) (pk_ite (pk_b2 (kt_sign hw) e106) (pk_b2 (kt_shift hw) e106))))
end
end
/-! 5q.read -/
section
noncomputable section
/-! A TEXT, from its first token to its last, and what both answer -/
/-- the shapes of what is read into -/
def RS0 (a : mG) : Prop := a.1 65 0 = cn 401 ∧ a.1 65 1 = cn 3 ∧ a.1 56 0 = cn 16 ∧ a.1 56 1 = cn 4 ∧ a.1 58 0 = cn 400 ∧ a.1 58 1 = cn 1 ∧ a.1 60 0 = cn 6 ∧ a.1 60 1 = cn 2 ∧ a.1 62 0 = cn 12 ∧ a.1 62 1 = cn 4
def refBody (k : Int32) (b : mG) : Option (Int32 × mG) := b1 (F_X12_next0 b) fun s11 => if k = 0 then F_X12_readsLaw s11 else F_X12_readsRows s11
theorem S_read {T : Nat → Int32} {len r : Nat} {a b : mG} (hr : r < 3) (hlen : len ≤ 400) (hB : ∀ k, k < len → 0 ≤ (T k).toInt ∧ (T k).toInt ≤ 255) (h64 : a.1 64 = T) (h9 : a.1 55 9 = cn len) (hsh : RS0 a) (h95 : ∀ k, k < len → b.1 95 k = T k) (h15 : b.1 88 15 = cn len) (h11 : b.1 88 11 = cn r ∧ b.1 88 22 = ci 0 ∧ b.1 88 24 = ci (-1)) (h16 : b.1 88 16 = cn 0) : rel (F_X7_readText (cn r) a) (refBody (cn r) b) (fun τ υ => τ.1 = υ.1 ∧ PB τ.1 ∧ (τ.1 = 0 → FE τ.2 υ.2) ∧ (¬ τ.1 = 0 → τ.2.1 55 10 = ci 0 ∧ τ.2.1 55 11 = ci (-1) ∧ ∃ m B, (r = 0 → INVL T len m B m τ.2 υ.2) ∧ (r = 1 → INVR T len 1 m B 60 2 6 m τ.2 υ.2) ∧ (r = 2 → INVR T len 2 m B 62 4 12 m τ.2 υ.2))) := by
  obtain ⟨t0, t1, u0, u1, v0, v1, w0, w1, x0, x1⟩ := hsh
  unfold F_X7_readText refBody
  rw [if_neg (cn_nn (by omega)), if_pos ((cle (x := cn r) (y := ci 2) (b := 2) rfl rfl (by omega) (by omega)).mpr (by omega))]
  dsimp only
  have hRD : RDs T len (mu (mu a.1 55 10 (ci 0)) 55 11 (ci (-1)), a.2) := ⟨((mu_rowQ (by omega)).trans (mu_row (by omega))).trans h64, ((mu_cellQ (by omega)).trans (mu_cell (by omega))).trans h9, hlen⟩
  refine rel_l1 (V_splitTape hRD ⟨(congrFun ((mu_rowQ (by omega)).trans (mu_row (by omega))) 0).trans t0, (congrFun ((mu_rowQ (by omega)).trans (mu_row (by omega))) 1).trans t1⟩) (fun s6 q => ?_)
  obtain ⟨⟨m, B, hK⟩, f1, f2, f3⟩ := q
  have hS : ST T len r m B := ⟨hlen, hr, hK.1, hB⟩
  have rw6 : ∀ j, j ≠ 55 → j ≠ 65 → j ≠ 66 → s6.1 j = a.1 j := fun j a1 a2 a3 => (f2 j a1 a2 a3).trans ((mu_rowQ a1).trans (mu_row a1))
  have c10 : s6.1 55 10 = ci 0 := (f3 10 (by omega)).trans ((mu_cellQ (by omega)).trans mu_same)
  have c11 : s6.1 55 11 = ci (-1) := (f3 11 (by omega)).trans mu_sameQ
  unfold F_X10_clear
  dsimp only
  rw [b1_some, b1_some, b1_some, b1_some]
  generalize hD : mu (mu (mu (mu (mu s6.1 56 3 (ci 0)) 58 3 (ci 0)) 60 3 (ci 0)) 62 3 (ci 0)) 55 12 (ci (-1)) = D
  have d65 : D 65 = s6.1 65 := by rw [← hD, mu_row (by omega), mu_row (by omega), mu_row (by omega), mu_row (by omega), mu_row (by omega)]
  have d66 : D 66 = s6.1 66 := by rw [← hD, mu_row (by omega), mu_row (by omega), mu_row (by omega), mu_row (by omega), mu_row (by omega)]
  have d55 : ∀ c, c ≠ 12 → D 55 c = s6.1 55 c := fun c hc => by rw [← hD, mu_cell (Or.inr hc), mu_row (by omega), mu_row (by omega), mu_row (by omega), mu_row (by omega)]
  have d12 : D 55 12 = ci (-1) := by rw [← hD, mu_same]
  have d56 : ∀ c, c ≠ 3 → D 56 c = a.1 56 c := fun c hc => by rw [← hD, mu_row (by omega), mu_row (by omega), mu_row (by omega), mu_row (by omega), mu_cell (Or.inr hc), rw6 56 (by omega) (by omega) (by omega)]
  have d563 : D 56 3 = cn 0 := by rw [← hD, mu_row (by omega), mu_row (by omega), mu_row (by omega), mu_row (by omega), mu_same]; rfl
  have d58 : ∀ c, c ≠ 3 → D 58 c = a.1 58 c := fun c hc => by rw [← hD, mu_row (by omega), mu_row (by omega), mu_row (by omega), mu_cell (Or.inr hc), mu_row (by omega), rw6 58 (by omega) (by omega) (by omega)]
  have d583 : D 58 3 = cn 0 := by rw [← hD, mu_row (by omega), mu_row (by omega), mu_row (by omega), mu_same]; rfl
  have d60 : ∀ c, c ≠ 3 → D 60 c = a.1 60 c := fun c hc => by rw [← hD, mu_row (by omega), mu_row (by omega), mu_cell (Or.inr hc), mu_row (by omega), mu_row (by omega), rw6 60 (by omega) (by omega) (by omega)]
  have d603 : D 60 3 = cn 0 := by rw [← hD, mu_row (by omega), mu_row (by omega), mu_same]; rfl
  have d62 : ∀ c, c ≠ 3 → D 62 c = a.1 62 c := fun c hc => by rw [← hD, mu_row (by omega), mu_cell (Or.inr hc), mu_row (by omega), mu_row (by omega), mu_row (by omega), rw6 62 (by omega) (by omega) (by omega)]
  have d623 : D 62 3 = cn 0 := by rw [← hD, mu_row (by omega), mu_same]; rfl
  clear hD
  have hKD : TKA T len m B (D, s6.2) := TKA_row hK d65 d66
  refine rel_l1 (V_stepG (j := 0) hKD (by show D 55 12 + ci 1 = cn 0; rw [d12]; decide) (Nat.zero_le _)) (fun s17 q => ?_)
  obtain ⟨g1, g2⟩ := q
  refine rel_r1 (V_nextG (j := 0) hS hKD h95 h15 h11 (by rw [h16, hK.2.1]) (by rw [hK.2.1]; omega) (Nat.zero_le _)) (fun s11 q => ?_)
  obtain ⟨g3, g4⟩ := q
  -- the old fault
  have z10 : s17.1 55 10 = ci 0 := (g2.2.2 10 (by omega) (by omega) (by omega) (by omega)).trans ((d55 10 (by omega)).trans c10)
  have z11 : s17.1 55 11 = ci (-1) := (g2.2.2 11 (by omega) (by omega) (by omega) (by omega)).trans ((d55 11 (by omega)).trans c11)
  have keep : ∀ τ, F_X7_readText_L64 (cn r) (ci 0) s17 = some τ → ¬ τ.1 = 0 → τ.2.1 55 10 = ci 0 ∧ τ.2.1 55 11 = ci (-1) := fun τ hτ hne => by
    have q := (kt_loop (z := s17) (k := cn r) (x := ci 0) ⟨rfl, rfl⟩ τ hτ).resolve_left hne
    exact ⟨q.1.trans z10, q.2.trans z11⟩
  have e : r = 0 ∨ r = 1 ∨ r = 2 := by omega
  rcases e with e | e | e
  · subst e
    rw [if_pos (by decide)]
    unfold F_X12_readsLaw
    dsimp only
    have inv : INVL T len m B 0 s17 (mu (mu s11.1 88 12 (ci 0)) 88 13 (ci 0), s11.2) := by
      refine ⟨0, 0, ⟨g1, RP_same g3 ((mu_rowQ (by omega)).trans (mu_row (by omega))) (fun c hc => (mu_cellQ (by omega)).trans (mu_cell (by omega))), ⟨⟨?_, ?_⟩, ?_, ?_, fun j hj => absurd hj (by omega), fun j hj => absurd hj (by simp)⟩, by omega⟩, by omega, ?_, ?_, ?_, ?_, fun j hj => absurd hj (by omega)⟩
      · rw [g2.2.1 58 (by omega)]; exact (d58 0 (by omega)).trans v0
      · rw [g2.2.1 58 (by omega)]; exact (d58 1 (by omega)).trans v1
      · rw [g2.2.1 58 (by omega)]; exact d583
      · exact mu_sameQ.trans rfl
      · rw [g2.2.1 56 (by omega)]; exact (d56 0 (by omega)).trans u0
      · rw [g2.2.1 56 (by omega)]; exact (d56 1 (by omega)).trans u1
      · rw [g2.2.1 56 (by omega)]; exact d563
      · exact (mu_cellQ (by omega)).trans (mu_same.trans rfl)
    intro τ hτ υ hυ
    obtain ⟨q1, q2, q3, q4⟩ := S_lawLoop (x := 0) hS (Nat.le_refl _) inv τ hτ υ hυ
    refine ⟨q1, q2, q3, fun hne => ⟨(keep τ hτ hne).1, (keep τ hτ hne).2, m, B, fun _ => q4 hne, fun e => absurd e (by omega), fun e => absurd e (by omega)⟩⟩
  · subst e
    rw [if_neg (by decide)]
    unfold F_X12_readsRows
    dsimp only
    have inv : INVR T len 1 m B 60 2 6 0 s17 (mu s11.1 88 14 (ci 0), s11.2) := by
      refine ⟨g1, RP_same g3 (mu_rowQ (by omega)) (fun c hc => mu_cellQ (by omega)), 0, by omega, ?_, ?_, ?_, mu_sameQ.trans rfl, fun k hk => absurd hk (by omega)⟩
      · rw [g2.2.1 60 (by omega)]; exact (d60 0 (by omega)).trans w0
      · rw [g2.2.1 60 (by omega)]; exact (d60 1 (by omega)).trans w1
      · rw [g2.2.1 60 (by omega)]; exact d603
    intro τ hτ υ hυ
    obtain ⟨q1, q2, q3, q4⟩ := S_signLoop (x := 0) hS (Nat.le_refl _) inv τ hτ υ hυ
    refine ⟨q1, q2, q3, fun hne => ⟨(keep τ hτ hne).1, (keep τ hτ hne).2, m, B, fun e => absurd e (by omega), fun _ => q4 hne, fun e => absurd e (by omega)⟩⟩
  · subst e
    rw [if_neg (by decide)]
    unfold F_X12_readsRows
    dsimp only
    have inv : INVR T len 2 m B 62 4 12 0 s17 (mu s11.1 88 14 (ci 0), s11.2) := by
      refine ⟨g1, RP_same g3 (mu_rowQ (by omega)) (fun c hc => mu_cellQ (by omega)), 0, by omega, ?_, ?_, ?_, mu_sameQ.trans rfl, fun k hk => absurd hk (by omega)⟩
      · rw [g2.2.1 62 (by omega)]; exact (d62 0 (by omega)).trans x0
      · rw [g2.2.1 62 (by omega)]; exact (d62 1 (by omega)).trans x1
      · rw [g2.2.1 62 (by omega)]; exact d623
    intro τ hτ υ hυ
    obtain ⟨q1, q2, q3, q4⟩ := S_shiftLoop (x := 0) hS (Nat.le_refl _) inv τ hτ υ hυ
    refine ⟨q1, q2, q3, fun hne => ⟨(keep τ hτ hne).1, (keep τ hτ hne).2, m, B, fun e => absurd e (by omega), fun e => absurd e (by omega), fun _ => q4 hne⟩⟩
end
end
/-! 5r.text -/
section
noncomputable section
/-! WHAT TEXT ANSWERS, and the fault that it leaves -/
theorem V_putsLaw {s : mG} : pk (F_X12_putsLaw s) (fun τ => τ.1 = s.1 88 12 ∧ τ.2.1 88 = s.1 88) := by
  unfold F_X12_putsLaw F_X12_putsLaw_L13
  refine pk_whl (fun v => v.2.1 88 = s.1 88) (mu_rowQ (by omega)) (fun v hv => ?_)
  obtain ⟨x1, u⟩ := v
  have hu : u.1 88 = s.1 88 := hv
  unfold F_X12_putsLaw_B13
  refine pk_ite ?_ ?_
  · refine pk_b1r ?_
    unfold F_X12_putsLaw_L107
    refine pk_whl (fun v => v.2.1 88 = s.1 88) hu (fun v hv => ?_)
    obtain ⟨x1, w⟩ := v
    have hw : w.1 88 = s.1 88 := hv
    unfold F_X12_putsLaw_B107
    exact pk_ite (pk_some ⟨congrFun hw 12, hw⟩) (pk_nn (pk_nn (pk_some ((mu_rowQ (by omega)).trans hw))))
  · refine pk_nn (pk_nn (pk_nn (pk_nn (pk_nn (pk_nn (pk_nn (pk_nn (pk_some (show _ = _ from ?_)))))))))
    dsimp only
    rw [mu_row (by decide), mu_row (by decide), mu_row (by decide), mu_row (by decide)]
    exact hu
theorem V_forgets {s : mG} : F_X12_forgets s = some (mu s.1 88 3 (ci 0), s.2) := rfl
theorem V_putsSigns {s : mG} : pk (F_X12_putsSigns s) (fun τ => τ.1 = s.1 88 14 ∧ ∀ c, c ≠ 3 → τ.2.1 88 c = s.1 88 c) := by
  unfold F_X12_putsSigns F_X12_putsSigns_L13
  refine pk_whl (fun v => v.2.1 88 = s.1 88) (mu_rowQ (by omega)) (fun v hv => ?_)
  obtain ⟨x1, u⟩ := v
  have hu : u.1 88 = s.1 88 := hv
  unfold F_X12_putsSigns_B13
  refine pk_ite ?_ ?_
  · refine pk_b1r ?_
    unfold F_X12_putsSigns_L47
    refine pk_whl (fun v => v.2.1 88 = s.1 88) hu (fun v hv => ?_)
    obtain ⟨x1, w⟩ := v
    have hw : w.1 88 = s.1 88 := hv
    unfold F_X12_putsSigns_B47
    rw [V_forgets, b1_some]
    exact pk_ite (pk_some ⟨by dsimp only; rw [mu_cell (by decide)]; exact congrFun hw 14, fun c hc => by dsimp only; rw [mu_cell (Or.inr hc)]; exact congrFun hw c⟩) (pk_nn (pk_some ((mu_rowQ (by omega)).trans hw)))
  · exact pk_nn (pk_nn (pk_some ((mu_rowQ (by omega)).trans hu)))
theorem V_putsShifts {s : mG} : pk (F_X12_putsShifts s) (fun τ => τ.1 = s.1 88 14 ∧ ∀ c, c ≠ 3 → τ.2.1 88 c = s.1 88 c) := by
  unfold F_X12_putsShifts F_X12_putsShifts_L13
  refine pk_whl (fun v => v.2.1 88 = s.1 88) (mu_rowQ (by omega)) (fun v hv => ?_)
  obtain ⟨x1, w⟩ := v
  have hw : w.1 88 = s.1 88 := hv
  unfold F_X12_putsShifts_B13
  rw [V_forgets, b1_some]
  exact pk_ite (pk_some ⟨by dsimp only; rw [mu_cell (by decide)]; exact congrFun hw 14, fun c hc => by dsimp only; rw [mu_cell (Or.inr hc)]; exact congrFun hw c⟩) (pk_nn (pk_nn (pk_some ((mu_rowQ (by omega)).trans hw))))
/-- what both answer to text, and which fault stands then -/
def TXT (τ υ : Int32 × mG) : Prop := τ.1 = υ.1 ∧ τ.2.1 55 9 = ci 0 ∧ υ.2.1 88 15 = ci 0 ∧ τ.2.1 55 10 = υ.2.1 88 22 ∧ τ.2.1 55 11 = υ.2.1 88 24
theorem S_text {T : Nat → Int32} {len : Nat} {a1 : Int32} {a b : mG} (hlen : len ≤ 400) (hB : ∀ k, k < len → 0 ≤ (T k).toInt ∧ (T k).toInt ≤ 255) (h64 : a.1 64 = T) (h9 : a.1 55 9 = cn len) (hsh : RS0 a) (h6 : TS 6 4 16 a) (h8 : TS 8 1 400 a) (h10 : TS 10 2 6 a) (h12 : TS 12 4 12 a) (h95 : ∀ k, k < len → b.1 95 k = T k) (h15 : b.1 88 15 = cn len) : rel (F_X11_text a1 a) (F_X12_text a1 b) TXT := by
  have hwi : wi a1 (ci 0) (ci 2) = 0 ∨ ∃ r, r < 3 ∧ a1 = cn r := by
    by_cases h : 0 ≤ a1.toInt ∧ a1.toInt ≤ 2
    · exact Or.inr ⟨a1.toInt.toNat, by omega, cnof h.1⟩
    · exact Or.inl (wi_out (by rw [show (ci 0).toInt = 0 by decide, show (ci 2).toInt = 2 by decide]; exact h))
  unfold F_X11_text F_X12_text
  dsimp only
  rw [F_isIn, b1_some]
  by_cases h0 : wi a1 (ci 0) (ci 2) = 0
  · rw [if_pos h0]
    have e : F_X7_readText a1 a = some (ci 0, (mu (mu a.1 55 10 (ci 0)) 55 11 (ci (-1)), a.2)) := by
      unfold F_X7_readText F_X7_readText_19
      by_cases hn : a1 < 0
      · rw [if_pos hn]
      · rw [if_neg hn]
        by_cases h2 : a1 ≤ ci 2
        · exfalso
          have q1 := t_nn hn
          have q2 := r_le rfl (by decide : (ci 2).toInt = 2) h2
          have e1 : wi a1 (ci 0) (ci 2) = ci 1 := wi_in (by rw [show (ci 0).toInt = 0 by decide]; exact q1) (by rw [show (ci 2).toInt = 2 by decide]; exact q2)
          exact absurd (e1.symm.trans h0) c1n0
        · rw [if_neg h2]
    rw [e, b2_some, if_pos c0e0]
    refine rel_some ⟨rfl, mu_sameQ, mu_sameQ, ?_, ?_⟩
    · exact ((mu_cellQ (by omega)).trans ((mu_cell (by omega)).trans mu_same)).trans ((mu_cellQ (by omega)).trans ((mu_cell (by omega)).trans mu_same)).symm
    · exact ((mu_cellQ (by omega)).trans mu_same).trans ((mu_cellQ (by omega)).trans mu_same).symm
  · rw [if_neg h0]
    obtain ⟨r, hr, e⟩ := hwi.resolve_left h0
    subst e
    -- the reference's state before its first token
    generalize hE : mu (mu (mu (mu (mu b.1 88 22 (ci 0)) 88 24 (ci (-1))) 88 20 (ci 0)) 88 16 (ci 0)) 88 11 (cn r) = E
    have e95 : ∀ k, k < len → ((E, b.2) : mG).1 95 k = T k := fun k hk => by
      show E 95 k = T k
      rw [← hE, mu_row (by omega), mu_row (by omega), mu_row (by omega), mu_row (by omega), mu_row (by omega)]; exact h95 k hk
    have e15 : ((E, b.2) : mG).1 88 15 = cn len := by
      show E 88 15 = _
      rw [← hE, mu_cell (by omega), mu_cell (by omega), mu_cell (by omega), mu_cell (by omega), mu_cell (by omega)]; exact h15
    have e11 : ((E, b.2) : mG).1 88 11 = cn r ∧ ((E, b.2) : mG).1 88 22 = ci 0 ∧ ((E, b.2) : mG).1 88 24 = ci (-1) := by
      show E 88 11 = _ ∧ E 88 22 = _ ∧ E 88 24 = _
      rw [← hE]
      refine ⟨mu_same, ?_, ?_⟩
      · rw [mu_cell (by omega), mu_cell (by omega), mu_cell (by omega), mu_cell (by omega), mu_same]
      · rw [mu_cell (by omega), mu_cell (by omega), mu_cell (by omega), mu_same]
    have e16 : ((E, b.2) : mG).1 88 16 = cn 0 := by
      show E 88 16 = _
      rw [← hE, mu_cell (by omega), mu_same]; rfl
    have body : ∀ X : mG, (b1 (F_X12_next0 X) fun s11 => if cn r = 0 then b2 (F_X12_readsLaw s11) fun v15 s14 => F_X12_text_60 (cn r) v15 s14 else b2 (F_X12_readsRows s11) fun v33 s32 => F_X12_text_60 (cn r) v33 s32) = b2 (refBody (cn r) X) fun v s => F_X12_text_60 (cn r) v s := fun X => by
      unfold refBody
      rw [b2_b1]
      congr 1
      funext s11
      rw [b2_if]
    try dsimp only
    rw [body]
    clear hE
    have hq := S_read hr hlen hB h64 h9 hsh e95 e15 e11 e16
    intro τ hτ υ hυ
    obtain ⟨v3, s2, e3, hτ⟩ := m_b2 hτ
    obtain ⟨w3, t2, f3, hυ⟩ := m_b2 hυ
    have hw := W_X7_readText (M := 276665132308624310272) (z := a) sub_rfl KB_rfl (v3, s2) e3
    have hw : KB 276665132308624310272 a s2 := hw
    have wr := KB_rng hw (a := 0) (n := 55) (by decide +kernel)
    obtain ⟨q1, q2, q3, q4⟩ := hq (v3, s2) e3 (w3, t2) f3
    have q1 : v3 = w3 := q1
    unfold F_X12_text_60 at hυ
    by_cases hv : v3 = 0
    · rw [if_pos hv] at hτ
      rw [if_pos (q1 ▸ hv)] at hυ
      cases hτ; cases hυ
      have f := q3 hv
      refine ⟨rfl, mu_sameQ, ?_, ?_, ?_⟩
      · try dsimp only
        exact (mu_cell (by decide)).trans ((mu_cell (by decide)).trans mu_same)
      · try dsimp only
        exact ((mu_cell (by decide)).trans f.1).trans (((mu_cell (by decide)).trans (mu_same.trans (mu_cell (by decide)))).symm)
      · try dsimp only
        exact ((mu_cell (by decide)).trans f.2).trans ((mu_same.trans ((mu_cell (by decide)).trans (mu_cell (by decide)))).symm)
    · rw [if_neg hv] at hτ
      rw [if_neg (fun e => hv (q1.trans e))] at hυ
      obtain ⟨z1, z2, m, B, i0, i1, i2⟩ := q4 hv
      have z1 : s2.1 55 10 = ci 0 := z1
      have z2 : s2.1 55 11 = ci (-1) := z2
      have row4 : ∀ j, j < 55 → ((mu s2.1 55 9 (ci 0), s2.2) : mG).1 j = a.1 j := fun j hj => (mu_rowQ (by omega)).trans (wr j (by omega) (by omega))
      have e : r = 0 ∨ r = 1 ∨ r = 2 := by omega
      rcases e with e | e | e
      · subst e
        obtain ⟨nc, L, hSX, hLL⟩ := i0 rfl
        obtain ⟨y1, y2, y3, y4⟩ := hSX
        obtain ⟨l0, l1, l2, l3, l4, l5⟩ := hLL
        have ncb : nc ≤ 400 := by have := y1.2.1; have := y1.1.1; omega
        rw [if_pos (by decide)] at hτ hυ
        try dsimp only at hτ
        obtain ⟨s8, e8, hτ⟩ := m_b1 hτ
        obtain ⟨s10, e10, hτ⟩ := m_b1 hτ
        cases hτ
        obtain ⟨v23, s22, e22, hυ⟩ := m_b2 hυ
        cases hυ
        obtain ⟨c1, c2, c3, c4, c5, c6⟩ := V_copy (t := 6) (a := 56) (n := L) (m := 16) (W := 4) (by omega) (by rw [row4 6 (by omega)]; exact h6.1) (by exact (congrFun (mu_rowQ (by omega)) 3).trans l3) (by rw [row4 6 (by omega)]; exact h6.2.1) l0 (by decide) (by rw [show m_alen (6 + 1) = 64 by decide +kernel]; omega) (by rw [show m_alen (56 + 1) = 64 by decide +kernel]; omega) (by decide) s8 e8
        have d := V_copyF s10 e10
        obtain ⟨p1, p2⟩ := V_putsLaw (v23, s22) e22
        have p1 : v23 = mu t2.1 88 15 (ci 0) 88 12 := p1
        have p2 : s22.1 88 = mu t2.1 88 15 (ci 0) 88 := p2
        have r55 : s10.1 55 = mu s2.1 55 9 (ci 0) 55 := (d 55 (by omega) (by omega)).trans (c2 55 (by omega) (by omega))
        refine ⟨?_, ?_, ?_, ?_, ?_⟩
        · show s10.1 6 3 = v23
          rw [d 6 (by omega) (by omega), c4, p1, mu_cell (by omega)]
          exact ((congrFun (mu_rowQ (by omega)) 3).trans l3).trans l4.symm
        · show s10.1 55 9 = _
          rw [r55, mu_same]
        · show s22.1 88 15 = _
          rw [p2, mu_same]
        · show s10.1 55 10 = s22.1 88 22
          rw [r55, p2, mu_cell (by omega), mu_cell (by omega), z1]
          exact y2.2.2.1.2.1.symm
        · show s10.1 55 11 = s22.1 88 24
          rw [r55, p2, mu_cell (by omega), mu_cell (by omega), z2]
          exact y2.2.2.1.2.2.symm
      · subst e
        obtain ⟨y1, y2, R, l0, l1, l2, l3, l4, l5⟩ := i1 rfl
        rw [if_neg (by decide)] at hτ hυ
        unfold F_X5_forget at hτ
        try dsimp only at hτ
        rw [b1_some, if_pos (by decide)] at hτ
        rw [if_pos (by decide)] at hυ
        obtain ⟨s15, e15', hτ⟩ := m_b1 hτ
        obtain ⟨s17, e17, hτ⟩ := m_b1 hτ
        cases hτ
        obtain ⟨v27, s26, e26, hυ⟩ := m_b2 hυ
        cases hυ
        have x10 : ((mu (mu s2.1 55 9 (ci 0)) 35 1 (ci 0), s2.2) : mG).1 10 = a.1 10 := (mu_rowQ (by omega)).trans (row4 10 (by omega))
        obtain ⟨c1, c2, c3, c4, c5, c6⟩ := V_copy (t := 10) (a := 60) (n := R) (m := 6) (W := 2) (by omega) (by rw [x10]; exact h10.1) (by exact (congrFun ((mu_rowQ (by omega)).trans (mu_row (by omega))) 3).trans l3) (by rw [x10]; exact h10.2.1) l0 (by decide) (by rw [show m_alen (10 + 1) = 12 by decide +kernel]; omega) (by rw [show m_alen (60 + 1) = 12 by decide +kernel]; omega) (by decide) s15 e15'
        have d := W_X2_forgetSeen (M := 8) (z := s15) (sub_and (by decide)) (by decide) KB_rfl s17 e17
        have d : KB 8 s15 s17 := d
        obtain ⟨p1, p2⟩ := V_putsSigns (v27, s26) e26
        have p1 : v27 = mu t2.1 88 15 (ci 0) 88 14 := p1
        have p2 : ∀ c, c ≠ 3 → s26.1 88 c = mu t2.1 88 15 (ci 0) 88 c := p2
        have r55 : s17.1 55 = mu s2.1 55 9 (ci 0) 55 := (d 55 (by decide +kernel)).trans ((c2 55 (by omega) (by omega)).trans (mu_rowQ (by omega)))
        refine ⟨?_, ?_, ?_, ?_, ?_⟩
        · show s17.1 10 3 = v27
          rw [d 10 (by decide +kernel), c4, p1, mu_cell (by omega)]
          exact ((congrFun ((mu_rowQ (by omega)).trans (mu_row (by omega))) 3).trans l3).trans l4.symm
        · show s17.1 55 9 = _
          rw [r55, mu_same]
        · show s26.1 88 15 = _
          rw [p2 15 (by omega), mu_same]
        · show s17.1 55 10 = s26.1 88 22
          rw [r55, p2 22 (by omega), mu_cell (by omega), mu_cell (by omega), z1]
          exact y2.2.2.1.2.1.symm
        · show s17.1 55 11 = s26.1 88 24
          rw [r55, p2 24 (by omega), mu_cell (by omega), mu_cell (by omega), z2]
          exact y2.2.2.1.2.2.symm
      · subst e
        obtain ⟨y1, y2, R, l0, l1, l2, l3, l4, l5⟩ := i2 rfl
        rw [if_neg (by decide)] at hτ hυ
        unfold F_X5_forget at hτ
        try dsimp only at hτ
        rw [b1_some, if_neg (by decide)] at hτ
        rw [if_neg (by decide)] at hυ
        obtain ⟨s15, e15', hτ⟩ := m_b1 hτ
        cases hτ
        obtain ⟨v27, s26, e26, hυ⟩ := m_b2 hυ
        cases hυ
        have x12 : ((mu (mu s2.1 55 9 (ci 0)) 35 1 (ci 0), s2.2) : mG).1 12 = a.1 12 := (mu_rowQ (by omega)).trans (row4 12 (by omega))
        obtain ⟨c1, c2, c3, c4, c5, c6⟩ := V_copy (t := 12) (a := 62) (n := R) (m := 12) (W := 4) (by omega) (by rw [x12]; exact h12.1) (by exact (congrFun ((mu_rowQ (by omega)).trans (mu_row (by omega))) 3).trans l3) (by rw [x12]; exact h12.2.1) l0 (by decide) (by rw [show m_alen (12 + 1) = 48 by decide +kernel]; omega) (by rw [show m_alen (62 + 1) = 48 by decide +kernel]; omega) (by decide) s15 e15'
        obtain ⟨p1, p2⟩ := V_putsShifts (v27, s26) e26
        have p1 : v27 = mu t2.1 88 15 (ci 0) 88 14 := p1
        have p2 : ∀ c, c ≠ 3 → s26.1 88 c = mu t2.1 88 15 (ci 0) 88 c := p2
        have r55 : s15.1 55 = mu s2.1 55 9 (ci 0) 55 := (c2 55 (by omega) (by omega)).trans (mu_rowQ (by omega))
        refine ⟨?_, ?_, ?_, ?_, ?_⟩
        · show s15.1 12 3 = v27
          rw [c4, p1, mu_cell (by omega)]
          exact ((congrFun ((mu_rowQ (by omega)).trans (mu_row (by omega))) 3).trans l3).trans l4.symm
        · show s15.1 55 9 = _
          rw [r55, mu_same]
        · show s26.1 88 15 = _
          rw [p2 15 (by omega), mu_same]
        · show s15.1 55 10 = s26.1 88 22
          rw [r55, p2 22 (by omega), mu_cell (by omega), mu_cell (by omega), z1]
          exact y2.2.2.1.2.1.symm
        · show s15.1 55 11 = s26.1 88 24
          rw [r55, p2 24 (by omega), mu_cell (by omega), mu_cell (by omega), z2]
          exact y2.2.2.1.2.2.symm
end
end
/-! 5s.tables -/
section
noncomputable section
/-! THE SHAPES OF THE TABLES that a text is read into stay -/
def TL : List (Nat × Nat × Nat) := [(6, 4, 16), (8, 1, 400), (10, 2, 6), (12, 4, 12), (23, 4, 16), (25, 1, 400), (27, 2, 6), (29, 4, 12), (56, 4, 16), (58, 1, 400), (60, 2, 6), (62, 4, 12), (65, 3, 401)]
def CTs (s : mG) : Prop := ∀ p ∈ TL, TS p.1 p.2.1 p.2.2 s
theorem TL_b : ∀ p ∈ TL, p.2.2 ≤ 401 := by decide
theorem CT_rows {s s' : mG} (h : CTs s) (r : ∀ p ∈ TL, s'.1 p.1 = s.1 p.1) : CTs s' := fun p hp => TS_row (h p hp) (r p hp)
theorem CT_mu {i k : Nat} {v : Int32} {s : mG} (h : CTs s) (d : (∀ p ∈ TL, p.1 ≠ i) ∨ (k ≠ 0 ∧ k ≠ 1 ∧ k ≠ 3)) : CTs (mu s.1 i k v, s.2) := fun p hp => by
  obtain ⟨a0, a1, n, hn, a3⟩ := h p hp
  have e : ∀ c, c = 0 ∨ c = 1 ∨ c = 3 → mu s.1 i k v p.1 c = s.1 p.1 c := fun c hc => mu_cell (d.elim (fun q => Or.inl (q p hp)) (fun q => Or.inr (by omega)))
  exact ⟨(e 0 (by omega)).trans a0, (e 1 (by omega)).trans a1, n, hn, (e 3 (by omega)).trans a3⟩
theorem CT_put3 {t : Nat} {v : Int32} {s : mG} (h : CTs s) (hv : ∀ p ∈ TL, p.1 = t → ∃ n, n ≤ p.2.2 ∧ v = cn n) : CTs (mu s.1 t 3 v, s.2) := fun p hp => by
  obtain ⟨a0, a1, n, hn, a3⟩ := h p hp
  by_cases e : p.1 = t
  · obtain ⟨m, hm, em⟩ := hv p hp e
    refine ⟨(mu_cell (Or.inr (by decide))).trans a0, (mu_cell (Or.inr (by decide))).trans a1, m, hm, ?_⟩
    show mu s.1 t 3 v p.1 3 = cn m
    rw [e, mu_same, em]
  · exact ⟨(mu_cell (Or.inl e)).trans a0, (mu_cell (Or.inl e)).trans a1, n, hn, (mu_cell (Or.inl e)).trans a3⟩
theorem CT_up {t : Nat} {s : mG} (h : CTs s) (hl : s.1 t 3 < s.1 t 0) : CTs (mu s.1 t 3 (s.1 t 3 + ci 1), s.2) := by
  refine CT_put3 h (fun p hp e => ?_)
  obtain ⟨a0, a1, n, hn, a3⟩ := h p hp
  have hb := TL_b p hp
  rw [← e, a0, a3] at hl
  have hl := (cn_lt (by omega) (by omega)).mp hl
  rw [← e, a3]
  exact ⟨n + 1, by omega, cnu (by omega)⟩
theorem Z_X10_add {t : Nat} {s : mG} (h : CTs s) : pk (F_X10_add t s) (fun τ => CTs τ.2) := by
  unfold F_X10_add
  refine pk_b1 (P := fun v => v = 0 → s.1 t 3 < s.1 t 0) ?_ (fun v hv => ?_)
  · unfold F_X10_isFull
    by_cases q : s.1 t 3 < s.1 t 0
    · rw [if_pos q]; exact pk_some (fun _ => q)
    · rw [if_neg q]; exact pk_some (fun e => absurd e c1n0)
  · by_cases q : v = 0
    · rw [if_pos q]; exact pk_some (CT_up h (hv q))
    · rw [if_neg q]; exact pk_some h
theorem Z_X10_clear {t : Nat} {s : mG} (h : CTs s) : pk (F_X10_clear t s) CTs := by
  unfold F_X10_clear
  exact pk_some (CT_put3 h (fun p hp e => ⟨0, Nat.zero_le _, rfl⟩))
theorem Z_X10_put {t : Nat} {a b c : Int32} {s : mG} (ha : ∀ p ∈ TL, p.1 ≠ t + 1) (h : CTs s) : pk (F_X10_put t a b c s) CTs := fun s' e => by
  obtain ⟨u, h1, h2, h3⟩ := X10_put_tot t s a b c
  rw [h1] at e
  exact Option.some.inj e ▸ CT_rows h (fun p hp => h3 p.1 (ha p hp))
theorem Z_X10_push {t : Nat} {a : Int32} {s : mG} (ha : ∀ p ∈ TL, p.1 ≠ t + 1) (h : CTs s) : pk (F_X10_push t a s) CTs := by
  unfold F_X10_push
  by_cases q : s.1 t 0 ≤ s.1 t 3
  · rw [if_pos q]; exact pk_some h
  · rw [if_neg q]
    dsimp only
    have h2 : CTs (mu s.1 t 3 (s.1 t 3 + ci 1), s.2) := CT_up h (Int32.not_le.mp q)
    exact pk_b1 (Z_X10_put ha h2) (fun _ h3 => pk_some h3)
theorem V_copyR {t a : Nat} {s : mG} : pk (F_X10_copyFrom t a s) (fun s' => (∀ i, i ≠ t → i ≠ t + 1 → s'.1 i = s.1 i) ∧ s'.1 t = mu s.1 t 3 (imin (s.1 a 3) (s.1 t 0)) t) := by
  unfold F_X10_copyFrom
  extract_lets s1 v2
  have qr : ∀ i, i ≠ t + 1 → s1.1 i = s1.1 i := fun i _ => rfl
  have q0 : ∀ i, i ≠ t → s1.1 i = s.1 i := fun i hi => mu_row hi
  have qt : s1.1 t = mu s.1 t 3 (imin (s.1 a 3) (s.1 t 0)) t := rfl
  clear_value v2 s1
  unfold F_X10_copyFrom_L27
  refine pk_whl (fun v => ∀ i, i ≠ t + 1 → v.2.2.1 i = s1.1 i) qr (fun v hv => ?_)
  obtain ⟨x2, x3, u⟩ := v
  have hv : ∀ i, i ≠ t + 1 → u.1 i = s1.1 i := hv
  have fin : (∀ i, i ≠ t → i ≠ t + 1 → u.1 i = s.1 i) ∧ u.1 t = mu s.1 t 3 (imin (s.1 a 3) (s.1 t 0)) t := ⟨fun i h1 h2 => (hv i h2).trans (q0 i h1), (hv t (by omega)).trans qt⟩
  unfold F_X10_copyFrom_B27
  refine pk_ite (pk_some fin) (pk_ite (pk_some fin) (pk_ite (pk_some fin) (pk_nn (pk_nn ?_))))
  exact pk_some (show ∀ i, i ≠ t + 1 → (mu u.1 (t + 1) _ _, u.2).1 i = s1.1 i from fun i h2 => (mu_row h2).trans (hv i h2))
theorem imin_cn {a b : Nat} (ha : a < 2147483648) (hb : b < 2147483648) : imin (cn a) (cn b) = cn (min a b) := by
  unfold imin
  by_cases h : a ≤ b
  · rw [Nat.min_eq_left h]
    by_cases q : cn a ≤ cn b
    · first | rw [if_pos q] | (rw [if_neg (fun e => absurd ((cn_lt hb ha).mp e) (by omega))])
    · exact absurd ((cn_le ha hb).mpr h) q
  · rw [Nat.min_eq_right (by omega)]
    first | rw [if_neg (fun e => h ((cn_le ha hb).mp e))] | rw [if_pos ((cn_lt hb ha).mpr (by omega))]
theorem Z_X10_copyFrom {t a : Nat} {s : mG} (ha : ∀ p ∈ TL, p.1 ≠ t + 1) (hs : ∀ p ∈ TL, p.1 = t → ∃ q ∈ TL, q.1 = a) (h : CTs s) : pk (F_X10_copyFrom t a s) CTs := fun s' e => by
  obtain ⟨r, rt⟩ := V_copyR s' e
  have h1 : CTs (mu s.1 t 3 (imin (s.1 a 3) (s.1 t 0)), s.2) := by
    refine CT_put3 h (fun p hp e => ?_)
    obtain ⟨a0, a1, n, hn, a3⟩ := h p hp
    obtain ⟨q, hq, eq⟩ := hs p hp e
    obtain ⟨b0, b1', m, hm, b3⟩ := h q hq
    have hb := TL_b p hp
    have hb2 := TL_b q hq
    rw [eq] at b3
    rw [e] at a0
    rw [b3, a0]
    exact ⟨min m p.2.2, Nat.min_le_right _ _, imin_cn (by omega) (by omega)⟩
  refine CT_rows h1 (fun p hp => ?_)
  by_cases e : p.1 = t
  · rw [e]; exact rt
  · exact (r p.1 e (ha p hp)).trans (mu_row e).symm
theorem Z_X11_put {a1 : Nat} {a b : Int32} {s : mG} (ha : ∀ p ∈ TL, p.1 ≠ a1) (h : CTs s) : pk (F_X11_put a1 a b s) CTs := by
  unfold F_X11_put
  refine pk_ite (pk_some h) (pk_b1 pk_top (fun _ _ => ?_))
  refine pk_ite (pk_some h) (pk_bs (fun _ => pk_nn ?_))
  exact pk_some (CT_mu h (Or.inl ha))
theorem Z_X2_forgetSeen {s : mG} (h : CTs s) : pk (F_X2_forgetSeen 1 s) CTs := fun s' e => by
  have d := W_X2_forgetSeen (M := 8) (z := s) (sub_and (by decide)) (by decide) KB_rfl s' e
  have d : KB 8 s s' := d
  exact CT_rows h (fun p hp => d p.1 (by revert p; decide +kernel))
theorem Z_X7_readText_19 {s : mG} (h : CTs s) : pk (F_X7_readText_19 s) (fun τ => CTs τ.2) := by
  unfold F_X7_readText_19
  exact pk_some h
theorem Z_X7_addToken {a1 : Int32} {a2 : Int32} {a3 : Int32} {s : mG} (h : CTs s) : pk (F_X7_addToken a1 a2 a3 s) (fun τ => CTs τ) := by
  unfold F_X7_addToken
  refine pk_b2 (Z_X10_add h) (fun _ s_1 (h_2 : CTs s_1) => ?_)
  refine pk_b1 (Z_X10_put (by decide) h_2) (fun s_3 (h_4 : CTs s_3) => ?_)
  refine pk_b1 (Z_X10_put (by decide) h_4) (fun s_5 (h_6 : CTs s_5) => ?_)
  refine pk_b1 (Z_X10_put (by decide) h_6) (fun s_7 (h_8 : CTs s_7) => ?_)
  exact pk_some h_8
theorem Z_X7_splitTape_94 {s : mG} (h : CTs s) : pk (F_X7_splitTape_94 s) (fun τ => CTs τ) := by
  unfold F_X7_splitTape_94
  refine pk_b1 (Z_X7_addToken h) (fun s_1 (h_2 : CTs s_1) => ?_)
  exact pk_some h_2
theorem Z_X7_skipBlanks_41 {s : mG} (h : CTs s) : pk (F_X7_skipBlanks_41 s) (fun τ => CTs τ.2) := by
  unfold F_X7_skipBlanks_41
  refine pk_ite ?_ ?_
  · exact pk_some h
  · exact pk_some h
theorem Z_X7_skipBlanks_B0 {s : mG} (h : CTs s) : pk (F_X7_skipBlanks_B0 s) (se (fun τ => CTs τ) (fun τ => CTs τ.2)) := by
  unfold F_X7_skipBlanks_B0
  refine pk_ite ?_ ?_
  · refine pk_b1r ?_
    exact (Z_X7_skipBlanks_41 h)
  · refine pk_b1 pk_top (fun _ _ => ?_)
    refine pk_b1 pk_top (fun _ _ => ?_)
    refine pk_ite ?_ ?_
    · refine pk_b1r ?_
      exact (Z_X7_skipBlanks_41 h)
    · extract_lets +onlyGivenNames s_1
      have h_2 : CTs s_1 := CT_mu h (Or.inl (by decide))
      clear_value s_1
      exact pk_some h_2
theorem Z_X7_skipBlanks_L0 {s : mG} (h : CTs s) : pk (F_X7_skipBlanks_L0 s) (fun τ => CTs τ.2) := by
  unfold F_X7_skipBlanks_L0
  refine pk_whl (fun v => CTs v) h (fun v hv => ?_)
  exact Z_X7_skipBlanks_B0 hv
theorem Z_X7_skipBlanks {s : mG} (h : CTs s) : pk (F_X7_skipBlanks s) (fun τ => CTs τ.2) := by
  unfold F_X7_skipBlanks
  exact (Z_X7_skipBlanks_L0 h)
theorem Z_X7_splitTape_88 {x1 : Int32} {s : mG} (h : CTs s) : pk (F_X7_splitTape_88 x1 s) (se (fun τ => CTs τ.2) (fun τ => CTs τ)) := by
  unfold F_X7_splitTape_88
  exact pk_some h
theorem Z_X7_splitNumber_100 {x1 : Int32} {x2 : Int32} {y1 : Int32} {s : mG} (h : CTs s) : pk (F_X7_splitNumber_100 x1 x2 y1 s) (fun τ => CTs τ) := by
  unfold F_X7_splitNumber_100
  refine pk_b1 (Z_X7_addToken h) (fun s_1 (h_2 : CTs s_1) => ?_)
  exact pk_some h_2
theorem Z_X7_splitNumber_82 {x1 : Int32} {x2 : Int32} {s : mG} (h : CTs s) : pk (F_X7_splitNumber_82 x1 x2 s) (fun τ => CTs τ) := by
  unfold F_X7_splitNumber_82
  refine pk_ite ?_ ?_
  · exact (Z_X7_splitNumber_100 h)
  · exact (Z_X7_splitNumber_100 h)
theorem Z_X7_splitNumber_68 {x1 : Int32} {y0 : Int32} {s : mG} (h : CTs s) : pk (F_X7_splitNumber_68 x1 y0 s) (se (fun τ => CTs τ.2.2) (fun τ => CTs τ)) := by
  unfold F_X7_splitNumber_68
  extract_lets +onlyGivenNames s_1
  have h_2 : CTs s_1 := CT_mu h (Or.inl (by decide))
  clear_value s_1
  exact pk_some h_2
theorem Z_X7_splitNumber_B7 {x1 : Int32} {x2 : Int32} {s : mG} (h : CTs s) : pk (F_X7_splitNumber_B7 x1 x2 s) (se (fun τ => CTs τ.2.2) (fun τ => CTs τ)) := by
  unfold F_X7_splitNumber_B7
  refine pk_ite ?_ ?_
  · refine pk_b1r ?_
    exact (Z_X7_splitNumber_82 h)
  · refine pk_b1 pk_top (fun _ _ => ?_)
    refine pk_b1 pk_top (fun _ _ => ?_)
    refine pk_ite ?_ ?_
    · refine pk_b1r ?_
      exact (Z_X7_splitNumber_82 h)
    · refine pk_ite ?_ ?_
      · exact (Z_X7_splitNumber_68 h)
      · refine pk_b1 pk_top (fun _ _ => ?_)
        exact (Z_X7_splitNumber_68 h)
theorem Z_X7_splitNumber_L7 {x1 : Int32} {x2 : Int32} {s : mG} (h : CTs s) : pk (F_X7_splitNumber_L7 x1 x2 s) (fun τ => CTs τ) := by
  unfold F_X7_splitNumber_L7
  refine pk_whl (fun v => CTs v.2.2) h (fun v hv => ?_)
  obtain ⟨y0, y1, y2⟩ := v
  exact Z_X7_splitNumber_B7 hv
theorem Z_X7_splitNumber {s : mG} (h : CTs s) : pk (F_X7_splitNumber s) (fun τ => CTs τ) := by
  unfold F_X7_splitNumber
  exact (Z_X7_splitNumber_L7 h)
theorem Z_X7_splitWord_68 {x1 : Int32} {y1 : Int32} {s : mG} (h : CTs s) : pk (F_X7_splitWord_68 x1 y1 s) (fun τ => CTs τ) := by
  unfold F_X7_splitWord_68
  refine pk_b1 (Z_X7_addToken h) (fun s_1 (h_2 : CTs s_1) => ?_)
  exact pk_some h_2
theorem Z_X7_splitWord_46 {x1 : Int32} {s : mG} (h : CTs s) : pk (F_X7_splitWord_46 x1 s) (fun τ => CTs τ) := by
  unfold F_X7_splitWord_46
  refine pk_b1 pk_top (fun _ _ => ?_)
  refine pk_ite ?_ ?_
  · exact (Z_X7_splitWord_68 h)
  · exact (Z_X7_splitWord_68 h)
theorem Z_X7_splitWord_B5 {x1 : Int32} {s : mG} (h : CTs s) : pk (F_X7_splitWord_B5 x1 s) (se (fun τ => CTs τ.2) (fun τ => CTs τ)) := by
  unfold F_X7_splitWord_B5
  refine pk_ite ?_ ?_
  · refine pk_b1r ?_
    exact (Z_X7_splitWord_46 h)
  · refine pk_b1 pk_top (fun _ _ => ?_)
    refine pk_b1 pk_top (fun _ _ => ?_)
    refine pk_ite ?_ ?_
    · refine pk_b1r ?_
      exact (Z_X7_splitWord_46 h)
    · extract_lets +onlyGivenNames s_1
      have h_2 : CTs s_1 := CT_mu h (Or.inl (by decide))
      clear_value s_1
      exact pk_some h_2
theorem Z_X7_splitWord_L5 {x1 : Int32} {s : mG} (h : CTs s) : pk (F_X7_splitWord_L5 x1 s) (fun τ => CTs τ) := by
  unfold F_X7_splitWord_L5
  refine pk_whl (fun v => CTs v.2) h (fun v hv => ?_)
  obtain ⟨y0, y1⟩ := v
  exact Z_X7_splitWord_B5 hv
theorem Z_X7_splitWord {s : mG} (h : CTs s) : pk (F_X7_splitWord s) (fun τ => CTs τ) := by
  unfold F_X7_splitWord
  exact (Z_X7_splitWord_L5 h)
theorem Z_X7_splitTape_B14 {x1 : Int32} {s : mG} (h : CTs s) : pk (F_X7_splitTape_B14 x1 s) (se (fun τ => CTs τ.2) (fun τ => CTs τ)) := by
  unfold F_X7_splitTape_B14
  refine pk_ite ?_ ?_
  · refine pk_b1r ?_
    exact (Z_X7_splitTape_94 h)
  · refine pk_b2 (Z_X7_skipBlanks h) (fun _ s_1 (h_2 : CTs s_1) => ?_)
    refine pk_ite ?_ ?_
    · refine pk_b1r ?_
      exact (Z_X7_splitTape_94 h_2)
    · refine pk_b1 pk_top (fun _ _ => ?_)
      refine pk_b1 pk_top (fun _ _ => ?_)
      refine pk_ite ?_ ?_
      · refine pk_b1 pk_top (fun _ _ => ?_)
        refine pk_ite ?_ ?_
        · refine pk_b1 (Z_X7_addToken h_2) (fun s_3 (h_4 : CTs s_3) => ?_)
          extract_lets +onlyGivenNames s_5
          have h_6 : CTs s_5 := CT_mu h_4 (Or.inl (by decide))
          clear_value s_5
          exact (Z_X7_splitTape_88 h_6)
        · refine pk_b1 (Z_X7_splitNumber h_2) (fun s_7 (h_8 : CTs s_7) => ?_)
          exact (Z_X7_splitTape_88 h_8)
      · refine pk_b1 (Z_X7_splitWord h_2) (fun s_9 (h_10 : CTs s_9) => ?_)
        exact (Z_X7_splitTape_88 h_10)
theorem Z_X7_splitTape_L14 {x1 : Int32} {s : mG} (h : CTs s) : pk (F_X7_splitTape_L14 x1 s) (fun τ => CTs τ) := by
  unfold F_X7_splitTape_L14
  refine pk_whl (fun v => CTs v.2) h (fun v hv => ?_)
  obtain ⟨y0, y1⟩ := v
  exact Z_X7_splitTape_B14 hv
theorem Z_X7_splitTape {s : mG} (h : CTs s) : pk (F_X7_splitTape s) (fun τ => CTs τ) := by
  unfold F_X7_splitTape
  refine pk_b1 (Z_X10_clear h) (fun s_1 (h_2 : CTs s_1) => ?_)
  extract_lets +onlyGivenNames s_3
  have h_4 : CTs s_3 := CT_mu h_2 (Or.inl (by decide))
  clear_value s_3
  exact (Z_X7_splitTape_L14 h_4)
theorem Z_X7_stepOn {s : mG} (h : CTs s) : pk (F_X7_stepOn s) (fun τ => CTs τ) := by
  unfold F_X7_stepOn
  extract_lets +onlyGivenNames s_1
  have h_2 : CTs s_1 := CT_mu h (Or.inl (by decide))
  clear_value s_1
  refine pk_b1 pk_top (fun _ _ => ?_)
  extract_lets +onlyGivenNames s_3
  have h_4 : CTs s_3 := CT_mu h_2 (Or.inl (by decide))
  clear_value s_3
  refine pk_b1 pk_top (fun _ _ => ?_)
  extract_lets +onlyGivenNames s_5
  have h_6 : CTs s_5 := CT_mu h_4 (Or.inl (by decide))
  clear_value s_5
  refine pk_b1 pk_top (fun _ _ => ?_)
  extract_lets +onlyGivenNames s_7
  have h_8 : CTs s_7 := CT_mu h_6 (Or.inl (by decide))
  clear_value s_7
  exact pk_some h_8
theorem Z_X7_readText_119 {s : mG} (h : CTs s) : pk (F_X7_readText_119 s) (fun τ => CTs τ.2) := by
  unfold F_X7_readText_119
  exact pk_some h
theorem Z_X7_refuse {a1 : Int32} {s : mG} (h : CTs s) : pk (F_X7_refuse a1 s) (fun τ => CTs τ.2) := by
  unfold F_X7_refuse
  extract_lets +onlyGivenNames s_1
  have h_2 : CTs s_1 := CT_mu h (Or.inl (by decide))
  clear_value s_1
  extract_lets +onlyGivenNames s_3
  have h_4 : CTs s_3 := CT_mu h_2 (Or.inl (by decide))
  clear_value s_3
  exact pk_some h_4
theorem Z_X7_readUnit_68 {s : mG} (h : CTs s) : pk (F_X7_readUnit_68 s) (fun τ => CTs τ.2) := by
  unfold F_X7_readUnit_68
  refine pk_b1 (Z_X7_stepOn h) (fun s_1 (h_2 : CTs s_1) => ?_)
  exact pk_some h_2
theorem Z_X7_readUnit_62 {s : mG} (h : CTs s) : pk (F_X7_readUnit_62 s) (fun τ => CTs τ.2) := by
  unfold F_X7_readUnit_62
  refine pk_b2 (Z_X7_refuse h) (fun _ s_1 (h_2 : CTs s_1) => ?_)
  refine pk_pp ?_
  exact pk_some h_2
theorem Z_X7_readUnit {s : mG} (h : CTs s) : pk (F_X7_readUnit s) (fun τ => CTs τ.2) := by
  unfold F_X7_readUnit
  extract_lets +onlyGivenNames v_1
  clear_value v_1
  refine pk_ite ?_ ?_
  · refine pk_b1 (Z_X10_push (by decide) h) (fun s_2 (h_3 : CTs s_2) => ?_)
    exact (Z_X7_readUnit_68 h_3)
  · refine pk_ite ?_ ?_
    · exact (Z_X7_readUnit_62 h)
    · refine pk_ite ?_ ?_
      · exact (Z_X7_readUnit_62 h)
      · refine pk_b1 (Z_X10_push (by decide) h) (fun s_4 (h_5 : CTs s_4) => ?_)
        exact (Z_X7_readUnit_68 h_5)
theorem Z_X7_emitIfAny {a1 : Int32} {s : mG} (h : CTs s) : pk (F_X7_emitIfAny a1 s) (fun τ => CTs τ) := by
  unfold F_X7_emitIfAny
  refine pk_ite ?_ ?_
  · exact pk_some h
  · refine pk_b1 (Z_X10_push (by decide) h) (fun s_1 (h_2 : CTs s_1) => ?_)
    exact pk_some h_2
theorem Z_X7_readSum_114 {x1 : Int32} {s : mG} (h : CTs s) : pk (F_X7_readSum_114 x1 s) (fun τ => CTs τ.2) := by
  unfold F_X7_readSum_114
  refine pk_b1 (Z_X7_emitIfAny h) (fun s_1 (h_2 : CTs s_1) => ?_)
  exact pk_some h_2
theorem Z_X7_readPart {s : mG} (h : CTs s) : pk (F_X7_readPart s) (fun τ => CTs τ.2) := by
  unfold F_X7_readPart
  refine pk_ite ?_ ?_
  · refine pk_ite ?_ ?_
    · refine pk_b2 (Z_X7_refuse h) (fun _ s_1 (h_2 : CTs s_1) => ?_)
      refine pk_pp ?_
      exact pk_some h_2
    · refine pk_b1 (Z_X10_push (by decide) h) (fun s_3 (h_4 : CTs s_3) => ?_)
      refine pk_b1 (Z_X7_stepOn h_4) (fun s_5 (h_6 : CTs s_5) => ?_)
      exact pk_some h_6
  · refine pk_b2 (Z_X7_refuse h) (fun _ s_7 (h_8 : CTs s_7) => ?_)
    refine pk_pp ?_
    exact pk_some h_8
theorem Z_X7_readSum_91 {s : mG} (h : CTs s) : pk (F_X7_readSum_91 s) (fun τ => CTs τ.2) := by
  unfold F_X7_readSum_91
  exact pk_some h
theorem Z_X7_readSum_105 {x1 : Int32} {x2 : Int32} {y1 : Int32} {s : mG} (h : CTs s) : pk (F_X7_readSum_105 x1 x2 y1 s) (se (fun τ => CTs τ.2.2) (fun τ => CTs τ.2)) := by
  unfold F_X7_readSum_105
  refine pk_b1 (Z_X7_emitIfAny h) (fun s_1 (h_2 : CTs s_1) => ?_)
  exact pk_some h_2
theorem Z_X7_readSum_93 {x1 : Int32} {x2 : Int32} {x3 : Int32} {s : mG} (h : CTs s) : pk (F_X7_readSum_93 x1 x2 x3 s) (se (fun τ => CTs τ.2.2) (fun τ => CTs τ.2)) := by
  unfold F_X7_readSum_93
  refine pk_ite ?_ ?_
  · exact (Z_X7_readSum_105 h)
  · exact (Z_X7_readSum_105 h)
theorem Z_X7_readSum_68 {x1 : Int32} {x2 : Int32} {x3 : Int32} {s : mG} (h : CTs s) : pk (F_X7_readSum_68 x1 x2 x3 s) (se (fun τ => CTs τ.2.2) (fun τ => CTs τ.2)) := by
  unfold F_X7_readSum_68
  refine pk_ite ?_ ?_
  · refine pk_b2 (Z_X7_readPart h) (fun _ s_1 (h_2 : CTs s_1) => ?_)
    refine pk_ite ?_ ?_
    · refine pk_b1r ?_
      exact (Z_X7_readSum_91 h_2)
    · exact (Z_X7_readSum_93 h_2)
  · refine pk_b2 (Z_X7_readUnit h) (fun _ s_3 (h_4 : CTs s_3) => ?_)
    refine pk_ite ?_ ?_
    · refine pk_b1r ?_
      exact (Z_X7_readSum_91 h_4)
    · exact (Z_X7_readSum_93 h_4)
theorem Z_X7_readSum_67 {x2 : Int32} {x3 : Int32} {y0 : Int32} {s : mG} (h : CTs s) : pk (F_X7_readSum_67 x2 x3 y0 s) (se (fun τ => CTs τ.2.2) (fun τ => CTs τ.2)) := by
  unfold F_X7_readSum_67
  exact (Z_X7_readSum_68 h)
theorem Z_X7_readSum_51 {x1 : Int32} {x2 : Int32} {x3 : Int32} {s : mG} (h : CTs s) : pk (F_X7_readSum_51 x1 x2 x3 s) (se (fun τ => CTs τ.2.2) (fun τ => CTs τ.2)) := by
  unfold F_X7_readSum_51
  refine pk_b1 (Z_X7_emitIfAny h) (fun s_1 (h_2 : CTs s_1) => ?_)
  refine pk_ite ?_ ?_
  · exact (Z_X7_readSum_67 h_2)
  · exact (Z_X7_readSum_67 h_2)
theorem Z_X7_readSum_B13 {x1 : Int32} {x2 : Int32} {s : mG} (h : CTs s) : pk (F_X7_readSum_B13 x1 x2 s) (se (fun τ => CTs τ.2.2) (fun τ => CTs τ.2)) := by
  unfold F_X7_readSum_B13
  refine pk_ite ?_ ?_
  · refine pk_b1r ?_
    exact (Z_X7_readSum_114 h)
  · refine pk_b1 pk_top (fun _ _ => ?_)
    refine pk_ite ?_ ?_
    · refine pk_b1r ?_
      exact (Z_X7_readSum_114 h)
    · refine pk_b1 (Z_X7_stepOn h) (fun s_1 (h_2 : CTs s_1) => ?_)
      refine pk_ite ?_ ?_
      · exact (Z_X7_readSum_51 h_2)
      · refine pk_ite ?_ ?_
        · exact (Z_X7_readSum_51 h_2)
        · exact (Z_X7_readSum_68 h_2)
theorem Z_X7_readSum_L13 {x1 : Int32} {x2 : Int32} {s : mG} (h : CTs s) : pk (F_X7_readSum_L13 x1 x2 s) (fun τ => CTs τ.2) := by
  unfold F_X7_readSum_L13
  refine pk_whl (fun v => CTs v.2.2) h (fun v hv => ?_)
  obtain ⟨y0, y1, y2⟩ := v
  exact Z_X7_readSum_B13 hv
theorem Z_X7_readSum {s : mG} (h : CTs s) : pk (F_X7_readSum s) (fun τ => CTs τ.2) := by
  unfold F_X7_readSum
  refine pk_b2 (Z_X7_readUnit h) (fun _ s_1 (h_2 : CTs s_1) => ?_)
  refine pk_ite ?_ ?_
  · exact pk_some h_2
  · exact (Z_X7_readSum_L13 h_2)
theorem Z_X7_readOpenings_71 {s : mG} (h : CTs s) : pk (F_X7_readOpenings_71 s) (fun τ => CTs τ.2) := by
  unfold F_X7_readOpenings_71
  exact pk_some h
theorem Z_X7_hold {a1 : Int32} {s : mG} (h : CTs s) : pk (F_X7_hold a1 s) (fun τ => CTs τ) := by
  unfold F_X7_hold
  refine pk_b1 (Z_X11_put (by decide) h) (fun s_1 (h_2 : CTs s_1) => ?_)
  extract_lets +onlyGivenNames s_3
  have h_4 : CTs s_3 := CT_mu h_2 (Or.inl (by decide))
  clear_value s_3
  exact pk_some h_4
theorem Z_X7_readOpenings_28 {x1 : Int32} {s : mG} (h : CTs s) : pk (F_X7_readOpenings_28 x1 s) (se (fun τ => CTs τ.2) (fun τ => CTs τ.2)) := by
  unfold F_X7_readOpenings_28
  refine pk_ite ?_ ?_
  · refine pk_b1 (Z_X7_hold h) (fun s_1 (h_2 : CTs s_1) => ?_)
    extract_lets +onlyGivenNames s_3
    have h_4 : CTs s_3 := CT_mu h_2 (Or.inl (by decide))
    clear_value s_3
    refine pk_b1 (Z_X7_stepOn h_4) (fun s_5 (h_6 : CTs s_5) => ?_)
    exact pk_some h_6
  · refine pk_b2 (Z_X7_refuse h) (fun _ s_7 (h_8 : CTs s_7) => ?_)
    refine pk_pp ?_
    exact pk_some h_8
theorem Z_X7_readOpenings_B2 {x1 : Int32} {s : mG} (h : CTs s) : pk (F_X7_readOpenings_B2 x1 s) (se (fun τ => CTs τ.2) (fun τ => CTs τ.2)) := by
  unfold F_X7_readOpenings_B2
  refine pk_ite ?_ ?_
  · refine pk_b1r ?_
    exact (Z_X7_readOpenings_71 h)
  · refine pk_ite ?_ ?_
    · exact (Z_X7_readOpenings_28 h)
    · refine pk_ite ?_ ?_
      · exact (Z_X7_readOpenings_28 h)
      · refine pk_b1r ?_
        exact (Z_X7_readOpenings_71 h)
theorem Z_X7_readOpenings_L2 {x1 : Int32} {s : mG} (h : CTs s) : pk (F_X7_readOpenings_L2 x1 s) (fun τ => CTs τ.2) := by
  unfold F_X7_readOpenings_L2
  refine pk_whl (fun v => CTs v.2) h (fun v hv => ?_)
  obtain ⟨y0, y1⟩ := v
  exact Z_X7_readOpenings_B2 hv
theorem Z_X7_readOpenings {s : mG} (h : CTs s) : pk (F_X7_readOpenings s) (fun τ => CTs τ.2) := by
  unfold F_X7_readOpenings
  exact (Z_X7_readOpenings_L2 h)
theorem Z_X7_readCondition_33 {s : mG} (h : CTs s) : pk (F_X7_readCondition_33 s) (fun τ => CTs τ.2) := by
  unfold F_X7_readCondition_33
  exact pk_some h
theorem Z_X7_closeNots_B2 {x1 : Int32} {s : mG} (h : CTs s) : pk (F_X7_closeNots_B2 x1 s) (se (fun τ => CTs τ.2) (fun τ => CTs τ)) := by
  unfold F_X7_closeNots_B2
  refine pk_ite ?_ ?_
  · exact pk_some h
  · refine pk_b1 pk_top (fun _ _ => ?_)
    refine pk_ite ?_ ?_
    · refine pk_b1 (Z_X10_push (by decide) h) (fun s_1 (h_2 : CTs s_1) => ?_)
      extract_lets +onlyGivenNames s_3
      have h_4 : CTs s_3 := CT_mu h_2 (Or.inl (by decide))
      clear_value s_3
      extract_lets +onlyGivenNames s_5
      have h_6 : CTs s_5 := CT_mu h_4 (Or.inl (by decide))
      clear_value s_5
      exact pk_some h_6
    · exact pk_some h
theorem Z_X7_closeNots_L2 {x1 : Int32} {s : mG} (h : CTs s) : pk (F_X7_closeNots_L2 x1 s) (fun τ => CTs τ) := by
  unfold F_X7_closeNots_L2
  refine pk_whl (fun v => CTs v.2) h (fun v hv => ?_)
  obtain ⟨y0, y1⟩ := v
  exact Z_X7_closeNots_B2 hv
theorem Z_X7_closeNots {s : mG} (h : CTs s) : pk (F_X7_closeNots s) (fun τ => CTs τ) := by
  unfold F_X7_closeNots
  exact (Z_X7_closeNots_L2 h)
theorem Z_X7_joinWhatWaits_50 {x1 : Int32} {x2 : Int32} {y1 : Int32} {s : mG} (h : CTs s) : pk (F_X7_joinWhatWaits_50 x1 x2 y1 s) (se (fun τ => CTs τ.2.2) (fun τ => CTs τ)) := by
  unfold F_X7_joinWhatWaits_50
  refine pk_b1 (Z_X10_push (by decide) h) (fun s_1 (h_2 : CTs s_1) => ?_)
  extract_lets +onlyGivenNames s_3
  have h_4 : CTs s_3 := CT_mu h_2 (Or.inl (by decide))
  clear_value s_3
  exact pk_some h_4
theorem Z_X7_joinWhatWaits_32 {x1 : Int32} {x2 : Int32} {x3 : Int32} {s : mG} (h : CTs s) : pk (F_X7_joinWhatWaits_32 x1 x2 x3 s) (se (fun τ => CTs τ.2.2) (fun τ => CTs τ)) := by
  unfold F_X7_joinWhatWaits_32
  refine pk_ite ?_ ?_
  · exact (Z_X7_joinWhatWaits_50 h)
  · exact (Z_X7_joinWhatWaits_50 h)
theorem Z_X7_joinWhatWaits_B2 {x1 : Int32} {x2 : Int32} {s : mG} (h : CTs s) : pk (F_X7_joinWhatWaits_B2 x1 x2 s) (se (fun τ => CTs τ.2.2) (fun τ => CTs τ)) := by
  unfold F_X7_joinWhatWaits_B2
  refine pk_ite ?_ ?_
  · exact pk_some h
  · refine pk_b1 pk_top (fun _ _ => ?_)
    refine pk_ite ?_ ?_
    · exact (Z_X7_joinWhatWaits_32 h)
    · refine pk_ite ?_ ?_
      · refine pk_ite ?_ ?_
        · exact (Z_X7_joinWhatWaits_32 h)
        · exact pk_some h
      · exact pk_some h
theorem Z_X7_joinWhatWaits_L2 {x1 : Int32} {x2 : Int32} {s : mG} (h : CTs s) : pk (F_X7_joinWhatWaits_L2 x1 x2 s) (fun τ => CTs τ) := by
  unfold F_X7_joinWhatWaits_L2
  refine pk_whl (fun v => CTs v.2.2) h (fun v hv => ?_)
  obtain ⟨y0, y1, y2⟩ := v
  exact Z_X7_joinWhatWaits_B2 hv
theorem Z_X7_joinWhatWaits {a1 : Int32} {s : mG} (h : CTs s) : pk (F_X7_joinWhatWaits a1 s) (fun τ => CTs τ) := by
  unfold F_X7_joinWhatWaits
  exact (Z_X7_joinWhatWaits_L2 h)
theorem Z_X7_readClosings_B6 {x1 : Int32} {s : mG} (h : CTs s) : pk (F_X7_readClosings_B6 x1 s) (se (fun τ => CTs τ.2) (fun τ => CTs τ)) := by
  unfold F_X7_readClosings_B6
  refine pk_ite ?_ ?_
  · exact pk_some h
  · refine pk_ite ?_ ?_
    · refine pk_ite ?_ ?_
      · exact pk_some h
      · refine pk_b1 (Z_X7_joinWhatWaits h) (fun s_1 (h_2 : CTs s_1) => ?_)
        extract_lets +onlyGivenNames s_3
        have h_4 : CTs s_3 := CT_mu h_2 (Or.inl (by decide))
        clear_value s_3
        extract_lets +onlyGivenNames s_5
        have h_6 : CTs s_5 := CT_mu h_4 (Or.inl (by decide))
        clear_value s_5
        refine pk_b1 (Z_X7_stepOn h_6) (fun s_7 (h_8 : CTs s_7) => ?_)
        refine pk_b1 (Z_X7_closeNots h_8) (fun s_9 (h_10 : CTs s_9) => ?_)
        exact pk_some h_10
    · exact pk_some h
theorem Z_X7_readClosings_L6 {x1 : Int32} {s : mG} (h : CTs s) : pk (F_X7_readClosings_L6 x1 s) (fun τ => CTs τ) := by
  unfold F_X7_readClosings_L6
  refine pk_whl (fun v => CTs v.2) h (fun v hv => ?_)
  obtain ⟨y0, y1⟩ := v
  exact Z_X7_readClosings_B6 hv
theorem Z_X7_readClosings {s : mG} (h : CTs s) : pk (F_X7_readClosings s) (fun τ => CTs τ) := by
  unfold F_X7_readClosings
  refine pk_b1 (Z_X7_closeNots h) (fun s_1 (h_2 : CTs s_1) => ?_)
  exact (Z_X7_readClosings_L6 h_2)
theorem Z_X7_readCondition_140 {x1 : Int32} {s : mG} (h : CTs s) : pk (F_X7_readCondition_140 x1 s) (se (fun τ => CTs τ.2) (fun τ => CTs τ.2)) := by
  unfold F_X7_readCondition_140
  refine pk_b1 (Z_X7_hold h) (fun s_1 (h_2 : CTs s_1) => ?_)
  refine pk_b1 (Z_X7_stepOn h_2) (fun s_3 (h_4 : CTs s_3) => ?_)
  exact pk_some h_4
theorem Z_X7_readCondition_134 {s : mG} (h : CTs s) : pk (F_X7_readCondition_134 s) (fun τ => CTs τ.2) := by
  unfold F_X7_readCondition_134
  exact pk_some h
theorem Z_X7_readCondition_96 {x1 : Int32} {y1 : Int32} {s : mG} (h : CTs s) : pk (F_X7_readCondition_96 x1 y1 s) (se (fun τ => CTs τ.2) (fun τ => CTs τ.2)) := by
  unfold F_X7_readCondition_96
  refine pk_b1 (Z_X7_joinWhatWaits h) (fun s_1 (h_2 : CTs s_1) => ?_)
  refine pk_ite ?_ ?_
  · exact (Z_X7_readCondition_140 h_2)
  · refine pk_ite ?_ ?_
    · exact (Z_X7_readCondition_140 h_2)
    · refine pk_ite ?_ ?_
      · refine pk_b1r ?_
        exact (Z_X7_readCondition_134 h_2)
      · refine pk_b2 (Z_X7_refuse h_2) (fun _ s_3 (h_4 : CTs s_3) => ?_)
        refine pk_ite ?_ ?_
        · exact pk_some h_4
        · refine pk_b1r ?_
          exact (Z_X7_readCondition_134 h_4)
theorem Z_X7_readCondition_B12 {x1 : Int32} {s : mG} (h : CTs s) : pk (F_X7_readCondition_B12 x1 s) (se (fun τ => CTs τ.2) (fun τ => CTs τ.2)) := by
  unfold F_X7_readCondition_B12
  refine pk_ite ?_ ?_
  · exact pk_some h
  · refine pk_b2 (Z_X7_readOpenings h) (fun _ s_1 (h_2 : CTs s_1) => ?_)
    refine pk_ite ?_ ?_
    · refine pk_b1r ?_
      exact (Z_X7_readCondition_33 h_2)
    · refine pk_b2 (Z_X7_readSum h_2) (fun _ s_3 (h_4 : CTs s_3) => ?_)
      refine pk_ite ?_ ?_
      · refine pk_b1r ?_
        exact (Z_X7_readCondition_33 h_4)
      · refine pk_b1 pk_top (fun _ _ => ?_)
        refine pk_ite ?_ ?_
        · refine pk_b2 (Z_X7_refuse h_4) (fun _ s_5 (h_6 : CTs s_5) => ?_)
          refine pk_pp ?_
          exact pk_some h_6
        · refine pk_b1 (Z_X7_stepOn h_4) (fun s_7 (h_8 : CTs s_7) => ?_)
          refine pk_b2 (Z_X7_readSum h_8) (fun _ s_9 (h_10 : CTs s_9) => ?_)
          refine pk_ite ?_ ?_
          · exact pk_some h_10
          · refine pk_b1 (Z_X10_push (by decide) h_10) (fun s_11 (h_12 : CTs s_11) => ?_)
            refine pk_b1 (Z_X7_readClosings h_12) (fun s_13 (h_14 : CTs s_13) => ?_)
            refine pk_ite ?_ ?_
            · exact (Z_X7_readCondition_96 h_14)
            · exact (Z_X7_readCondition_96 h_14)
theorem Z_X7_readCondition_L12 {x1 : Int32} {s : mG} (h : CTs s) : pk (F_X7_readCondition_L12 x1 s) (fun τ => CTs τ.2) := by
  unfold F_X7_readCondition_L12
  refine pk_whl (fun v => CTs v.2) h (fun v hv => ?_)
  obtain ⟨y0, y1⟩ := v
  exact Z_X7_readCondition_B12 hv
theorem Z_X7_readCondition {s : mG} (h : CTs s) : pk (F_X7_readCondition s) (fun τ => CTs τ.2) := by
  unfold F_X7_readCondition
  extract_lets +onlyGivenNames s_1
  have h_2 : CTs s_1 := CT_mu h (Or.inl (by decide))
  clear_value s_1
  extract_lets +onlyGivenNames s_3
  have h_4 : CTs s_3 := CT_mu h_2 (Or.inl (by decide))
  clear_value s_3
  exact (Z_X7_readCondition_L12 h_4)
theorem Z_X7_pass {a1 : Int32} {s : mG} (h : CTs s) : pk (F_X7_pass a1 s) (fun τ => CTs τ.2) := by
  unfold F_X7_pass
  refine pk_ite ?_ ?_
  · refine pk_b1 (Z_X7_stepOn h) (fun s_1 (h_2 : CTs s_1) => ?_)
    exact pk_some h_2
  · refine pk_b2 (Z_X7_refuse h) (fun _ s_3 (h_4 : CTs s_3) => ?_)
    refine pk_pp ?_
    exact pk_some h_4
theorem Z_X7_readLaw_126 {x1 : Int32} {s : mG} (h : CTs s) : pk (F_X7_readLaw_126 x1 s) (fun τ => CTs τ.2) := by
  unfold F_X7_readLaw_126
  refine pk_b1 (Z_X10_put (by decide) h) (fun s_1 (h_2 : CTs s_1) => ?_)
  refine pk_b2 (Z_X7_pass h_2) (fun _ s_3 (h_4 : CTs s_3) => ?_)
  refine pk_pp ?_
  exact pk_some h_4
theorem Z_X7_readLaw {s : mG} (h : CTs s) : pk (F_X7_readLaw s) (fun τ => CTs τ.2) := by
  unfold F_X7_readLaw
  refine pk_b1 pk_top (fun _ _ => ?_)
  refine pk_ite ?_ ?_
  · refine pk_b2 (Z_X7_refuse h) (fun _ s_1 (h_2 : CTs s_1) => ?_)
    refine pk_pp ?_
    exact pk_some h_2
  · refine pk_b2 (Z_X10_add h) (fun _ s_3 (h_4 : CTs s_3) => ?_)
    refine pk_ite ?_ ?_
    · refine pk_b2 (Z_X7_refuse h_4) (fun _ s_5 (h_6 : CTs s_5) => ?_)
      refine pk_pp ?_
      exact pk_some h_6
    · refine pk_b1 (Z_X10_put (by decide) h_4) (fun s_7 (h_8 : CTs s_7) => ?_)
      refine pk_b1 (Z_X10_put (by decide) h_8) (fun s_9 (h_10 : CTs s_9) => ?_)
      refine pk_b1 (Z_X7_stepOn h_10) (fun s_11 (h_12 : CTs s_11) => ?_)
      refine pk_b2 (Z_X7_readSum h_12) (fun _ s_13 (h_14 : CTs s_13) => ?_)
      refine pk_ite ?_ ?_
      · exact pk_some h_14
      · refine pk_b1 (Z_X10_put (by decide) h_14) (fun s_15 (h_16 : CTs s_15) => ?_)
        refine pk_ite ?_ ?_
        · refine pk_b1 (Z_X7_stepOn h_16) (fun s_17 (h_18 : CTs s_17) => ?_)
          refine pk_b2 (Z_X7_readCondition h_18) (fun _ s_19 (h_20 : CTs s_19) => ?_)
          refine pk_ite ?_ ?_
          · exact pk_some h_20
          · exact (Z_X7_readLaw_126 h_20)
        · exact (Z_X7_readLaw_126 h_16)
theorem Z_X7_readText_106 {x1 : Int32} {x2 : Int32} {y0 : Int32} {s : mG} (h : CTs s) : pk (F_X7_readText_106 x1 x2 y0 s) (se (fun τ => CTs τ.2.2) (fun τ => CTs τ.2)) := by
  unfold F_X7_readText_106
  refine pk_ite ?_ ?_
  · exact pk_some h
  · exact pk_some h
theorem Z_X7_readHead_30 {a2 : Nat} {s : mG} (h : CTs s) : pk (F_X7_readHead_30 a2 s) (fun τ => CTs τ.2) := by
  unfold F_X7_readHead_30
  exact pk_some h
theorem Z_X7_readHead {a2 : Nat} {a1 : Int32} {s : mG} (h : CTs s) : pk (F_X7_readHead a2 a1 s) (fun τ => CTs τ.2) := by
  unfold F_X7_readHead
  refine pk_ite ?_ ?_
  · refine pk_b2 (Z_X10_add h) (fun _ s_1 (h_2 : CTs s_1) => ?_)
    refine pk_ite ?_ ?_
    · refine pk_b2 (Z_X7_refuse h_2) (fun _ s_3 (h_4 : CTs s_3) => ?_)
      refine pk_ite ?_ ?_
      · exact pk_some h_4
      · exact (Z_X7_readHead_30 h_4)
    · exact (Z_X7_readHead_30 h_2)
  · refine pk_b2 (Z_X7_refuse h) (fun _ s_5 (h_6 : CTs s_5) => ?_)
    refine pk_pp ?_
    exact pk_some h_6
theorem Z_X7_readNamed {a4 : Nat} {a1 : Int32} {a2 : Int32} {a3 : Int32} {a5 : Int32} {s : mG} (ha : ∀ p ∈ TL, p.1 ≠ a4 + 1) (h : CTs s) : pk (F_X7_readNamed a4 a1 a2 a3 a5 s) (fun τ => CTs τ.2) := by
  unfold F_X7_readNamed
  refine pk_b2 (Z_X7_pass h) (fun _ s_1 (h_2 : CTs s_1) => ?_)
  refine pk_ite ?_ ?_
  · exact pk_some h_2
  · refine pk_ite ?_ ?_
    · refine pk_b1 pk_top (fun _ _ => ?_)
      refine pk_ite ?_ ?_
      · refine pk_b2 (Z_X7_refuse h_2) (fun _ s_3 (h_4 : CTs s_3) => ?_)
        refine pk_pp ?_
        exact pk_some h_4
      · refine pk_b1 (Z_X10_put ha h_2) (fun s_5 (h_6 : CTs s_5) => ?_)
        refine pk_b1 (Z_X7_stepOn h_6) (fun s_7 (h_8 : CTs s_7) => ?_)
        exact pk_some h_8
    · refine pk_b2 (Z_X7_refuse h_2) (fun _ s_9 (h_10 : CTs s_9) => ?_)
      refine pk_pp ?_
      exact pk_some h_10
theorem Z_X7_readSign_71 {s : mG} (h : CTs s) : pk (F_X7_readSign_71 s) (fun τ => CTs τ.2) := by
  unfold F_X7_readSign_71
  exact pk_some h
theorem Z_X7_readSign {s : mG} (h : CTs s) : pk (F_X7_readSign s) (fun τ => CTs τ.2) := by
  unfold F_X7_readSign
  refine pk_b2 (Z_X7_readHead h) (fun _ s_1 (h_2 : CTs s_1) => ?_)
  refine pk_ite ?_ ?_
  · exact pk_some h_2
  · refine pk_b1 (Z_X7_stepOn h_2) (fun s_3 (h_4 : CTs s_3) => ?_)
    refine pk_b2 (Z_X7_readNamed (by decide) h_4) (fun _ s_5 (h_6 : CTs s_5) => ?_)
    refine pk_ite ?_ ?_
    · exact (Z_X7_readSign_71 h_6)
    · refine pk_b2 (Z_X7_readNamed (by decide) h_6) (fun _ s_7 (h_8 : CTs s_7) => ?_)
      refine pk_ite ?_ ?_
      · exact (Z_X7_readSign_71 h_8)
      · refine pk_b2 (Z_X7_pass h_8) (fun _ s_9 (h_10 : CTs s_9) => ?_)
        refine pk_ite ?_ ?_
        · exact (Z_X7_readSign_71 h_10)
        · exact pk_some h_10
theorem Z_X7_readShift_97 {s : mG} (h : CTs s) : pk (F_X7_readShift_97 s) (fun τ => CTs τ.2) := by
  unfold F_X7_readShift_97
  exact pk_some h
theorem Z_X7_readShift {s : mG} (h : CTs s) : pk (F_X7_readShift s) (fun τ => CTs τ.2) := by
  unfold F_X7_readShift
  refine pk_b2 (Z_X7_readHead h) (fun _ s_1 (h_2 : CTs s_1) => ?_)
  refine pk_ite ?_ ?_
  · exact (Z_X7_readShift_97 h_2)
  · refine pk_b2 (Z_X7_readNamed (by decide) h_2) (fun _ s_3 (h_4 : CTs s_3) => ?_)
    refine pk_ite ?_ ?_
    · exact (Z_X7_readShift_97 h_4)
    · refine pk_b2 (Z_X7_readNamed (by decide) h_4) (fun _ s_5 (h_6 : CTs s_5) => ?_)
      refine pk_ite ?_ ?_
      · exact (Z_X7_readShift_97 h_6)
      · refine pk_b2 (Z_X7_readNamed (by decide) h_6) (fun _ s_7 (h_8 : CTs s_7) => ?_)
        refine pk_ite ?_ ?_
        · exact (Z_X7_readShift_97 h_8)
        · refine pk_b2 (Z_X7_readNamed (by decide) h_8) (fun _ s_9 (h_10 : CTs s_9) => ?_)
          refine pk_ite ?_ ?_
          · exact (Z_X7_readShift_97 h_10)
          · refine pk_b2 (Z_X7_pass h_10) (fun _ s_11 (h_12 : CTs s_11) => ?_)
            refine pk_ite ?_ ?_
            · exact (Z_X7_readShift_97 h_12)
            · exact pk_some h_12
theorem Z_X7_readText_B64 {x1 : Int32} {x2 : Int32} {s : mG} (h : CTs s) : pk (F_X7_readText_B64 x1 x2 s) (se (fun τ => CTs τ.2.2) (fun τ => CTs τ.2)) := by
  unfold F_X7_readText_B64
  refine pk_ite ?_ ?_
  · refine pk_b1r ?_
    exact (Z_X7_readText_119 h)
  · refine pk_ite ?_ ?_
    · refine pk_b1r ?_
      exact (Z_X7_readText_119 h)
    · refine pk_ite ?_ ?_
      · refine pk_b2 (Z_X7_readLaw h) (fun _ s_1 (h_2 : CTs s_1) => ?_)
        exact (Z_X7_readText_106 h_2)
      · refine pk_ite ?_ ?_
        · refine pk_b2 (Z_X7_readSign h) (fun _ s_3 (h_4 : CTs s_3) => ?_)
          exact (Z_X7_readText_106 h_4)
        · refine pk_b2 (Z_X7_readShift h) (fun _ s_5 (h_6 : CTs s_5) => ?_)
          exact (Z_X7_readText_106 h_6)
theorem Z_X7_readText_L64 {x1 : Int32} {x2 : Int32} {s : mG} (h : CTs s) : pk (F_X7_readText_L64 x1 x2 s) (fun τ => CTs τ.2) := by
  unfold F_X7_readText_L64
  refine pk_whl (fun v => CTs v.2.2) h (fun v hv => ?_)
  obtain ⟨y0, y1, y2⟩ := v
  exact Z_X7_readText_B64 hv
theorem Z_X7_readText {a1 : Int32} {s : mG} (h : CTs s) : pk (F_X7_readText a1 s) (fun τ => CTs τ.2) := by
  unfold F_X7_readText
  extract_lets +onlyGivenNames s_1
  have h_2 : CTs s_1 := CT_mu h (Or.inl (by decide))
  clear_value s_1
  extract_lets +onlyGivenNames s_3
  have h_4 : CTs s_3 := CT_mu h_2 (Or.inl (by decide))
  clear_value s_3
  refine pk_ite ?_ ?_
  · exact (Z_X7_readText_19 h_4)
  · refine pk_ite ?_ ?_
    · refine pk_b1 (Z_X7_splitTape h_4) (fun s_5 (h_6 : CTs s_5) => ?_)
      refine pk_b1 (Z_X10_clear h_6) (fun s_7 (h_8 : CTs s_7) => ?_)
      refine pk_b1 (Z_X10_clear h_8) (fun s_9 (h_10 : CTs s_9) => ?_)
      refine pk_b1 (Z_X10_clear h_10) (fun s_11 (h_12 : CTs s_11) => ?_)
      refine pk_b1 (Z_X10_clear h_12) (fun s_13 (h_14 : CTs s_13) => ?_)
      extract_lets +onlyGivenNames s_15
      have h_16 : CTs s_15 := CT_mu h_14 (Or.inl (by decide))
      clear_value s_15
      refine pk_b1 (Z_X7_stepOn h_16) (fun s_17 (h_18 : CTs s_17) => ?_)
      exact (Z_X7_readText_L64 h_18)
    · exact (Z_X7_readText_19 h_4)
theorem Z_X5_forget {s : mG} (h : CTs s) : pk (F_X5_forget s) (fun τ => CTs τ) := by
  unfold F_X5_forget
  extract_lets +onlyGivenNames s_1
  have h_2 : CTs s_1 := CT_mu h (Or.inl (by decide))
  clear_value s_1
  exact pk_some h_2
theorem Z_X11_text {a1 : Int32} {s : mG} (h : CTs s) : pk (F_X11_text a1 s) (fun τ => CTs τ.2) := by
  unfold F_X11_text
  refine pk_b2 (Z_X7_readText h) (fun _ s_1 (h_2 : CTs s_1) => ?_)
  extract_lets +onlyGivenNames s_3
  have h_4 : CTs s_3 := CT_mu h_2 (Or.inl (by decide))
  clear_value s_3
  refine pk_ite ?_ ?_
  · exact pk_some h_4
  · refine pk_ite ?_ ?_
    · refine pk_b1 (Z_X10_copyFrom (by decide) (by decide) h_4) (fun s_5 (h_6 : CTs s_5) => ?_)
      refine pk_b1 (Z_X10_copyFrom (by decide) (by decide) h_6) (fun s_7 (h_8 : CTs s_7) => ?_)
      exact pk_some h_8
    · refine pk_b1 (Z_X5_forget h_4) (fun s_9 (h_10 : CTs s_9) => ?_)
      refine pk_ite ?_ ?_
      · refine pk_b1 (Z_X10_copyFrom (by decide) (by decide) h_10) (fun s_11 (h_12 : CTs s_11) => ?_)
        refine pk_b1 (Z_X2_forgetSeen h_12) (fun s_13 (h_14 : CTs s_13) => ?_)
        exact pk_some h_14
      · refine pk_b1 (Z_X10_copyFrom (by decide) (by decide) h_10) (fun s_15 (h_16 : CTs s_15) => ?_)
        exact pk_some h_16
/-! the image -/
theorem Z_X2_copyFrom {h a : Nat} {s : mG} (hh : h = 1 ∧ a = 18 ∨ h = 18 ∧ a = 1) (hc : CTs s) : pk (F_X2_copyFrom h a s) CTs := by
  unfold F_X2_copyFrom
  rcases hh with ⟨e1, e2⟩ | ⟨e1, e2⟩ <;> subst e1 <;> subst e2
  all_goals
    refine pk_b1 (Z_X10_copyFrom (by decide) (by decide) hc) (fun s2 h2 => ?_)
    refine pk_b1 (Z_X10_copyFrom (by decide) (by decide) h2) (fun s2 h2 => ?_)
    refine pk_b1 (Z_X10_copyFrom (by decide) (by decide) h2) (fun s2 h2 => ?_)
    refine pk_b1 (Z_X10_copyFrom (by decide) (by decide) h2) (fun s2 h2 => ?_)
    refine pk_b1 (Z_X10_copyFrom (by decide) (by decide) h2) (fun s2 h2 => ?_)
    refine pk_b1 (Z_X10_copyFrom (by decide) (by decide) h2) (fun s2 h2 => ?_)
    refine pk_b1 (Z_X10_copyFrom (by decide) (by decide) h2) (fun s2 h2 => ?_)
    refine pk_b1 (Z_X10_copyFrom (by decide) (by decide) h2) (fun s2 h2 => ?_)
    exact pk_some (CT_mu (CT_mu (CT_mu (CT_mu h2 (Or.inl (by decide))) (Or.inl (by decide))) (Or.inl (by decide))) (Or.inl (by decide)))
theorem Z_X11_image {a1 : Int32} {s : mG} (h : CTs s) : pk (F_X11_image a1 s) (fun τ => CTs τ.2) := by
  unfold F_X11_image F_X5_forget
  refine pk_ite (pk_ite (pk_some h) (pk_b1 (Z_X2_copyFrom (Or.inl ⟨rfl, rfl⟩) h) (fun s2 h2 => ?_))) (pk_b1 (Z_X2_copyFrom (Or.inr ⟨rfl, rfl⟩) h) (fun s2 h2 => ?_))
  · rw [b1_some]; exact pk_some (CT_mu h2 (Or.inl (by decide)))
  · exact pk_some (CT_mu h2 (Or.inl (by decide)))
end
end
/-! 5t.feed -/
section
noncomputable section
/-! FEED, BYTE BY BYTE, on both sides; END -/
theorem and255 (y : Int32) : (y &&& c16 255).toInt = ((y.toBitVec.toNat % 256 : Nat) : Int) := by
  have h1 : (y &&& c16 255).toBitVec = y.toBitVec &&& 255#32 := rfl
  have h2 : (y.toBitVec &&& 255#32).toNat = y.toBitVec.toNat % 256 := by
    rw [BitVec.toNat_and]; exact Nat.and_two_pow_sub_one_eq_mod _ 8
  show (y &&& c16 255).toBitVec.toInt = _
  rw [h1, BitVec.toInt_eq_toNat_of_lt (by rw [h2]; omega), h2]
theorem sr_nat (x : BitVec 32) (s : Nat) (hs : s = 24 ∨ s = 16 ∨ s = 8 ∨ s = 0) : (x.sshiftRight s).toNat % 256 = x.toNat / 2 ^ s % 256 := by
  have hx := x.isLt
  cases h : x.msb
  · rw [BitVec.sshiftRight_eq_of_msb_false h, BitVec.toNat_ushiftRight, Nat.shiftRight_eq_div_pow]
  · rw [BitVec.sshiftRight_eq_of_msb_true h, BitVec.toNat_not, BitVec.toNat_ushiftRight, BitVec.toNat_not, Nat.shiftRight_eq_div_pow]
    rcases hs with e | e | e | e <;> subst e <;> omega
theorem bs_nat {x c : Int32} {n : Nat} (h : (c.toBitVec.smod 32#32).toNat = n) : ((x >>> c) &&& c16 255).toInt = (((x.toBitVec.sshiftRight n).toNat % 256 : Nat) : Int) := by
  have h1 : (x >>> c).toBitVec = x.toBitVec.sshiftRight ((c.toBitVec.smod 32#32).toNat) := rfl
  rw [and255, h1, h]
theorem us_nat {x c : Int32} {n : Nat} (h : ((c.toUInt32 &&& Int32.toUInt32 31).toBitVec % 32#32).toNat = n) : ((ushr x c) &&& c16 255).toInt = ((x.toBitVec.toNat / 2 ^ n % 256 : Nat) : Int) := by
  have h1 : (ushr x c).toBitVec = x.toBitVec >>> ((c.toUInt32 &&& Int32.toUInt32 31).toBitVec % 32#32) := rfl
  rw [and255, h1, BitVec.ushiftRight_eq', h, BitVec.toNat_ushiftRight, Nat.shiftRight_eq_div_pow]
def dj (j : Nat) : Int32 := c8 24 - c8 8 * cn j
def btQ (x : Int32) (j : Nat) : Int32 := (x >>> (dj j &&& 31)) &&& c16 255
theorem bt_b {x : Int32} {j : Nat} : 0 ≤ (btQ x j).toInt ∧ (btQ x j).toInt ≤ 255 := by
  unfold btQ
  rw [and255]
  omega
theorem bt_u {x : Int32} {j : Nat} (h : j < 4) : ushr x (dj j) &&& c16 255 = btQ x j := by
  refine Int32.toInt_inj.mp ?_
  unfold btQ
  have e : j = 0 ∨ j = 1 ∨ j = 2 ∨ j = 3 := by omega
  rcases e with e | e | e | e <;> subst e
  · rw [us_nat (n := 24) (by decide +kernel), bs_nat (n := 24) (by decide +kernel), sr_nat _ _ (by omega)]
  · rw [us_nat (n := 16) (by decide +kernel), bs_nat (n := 16) (by decide +kernel), sr_nat _ _ (by omega)]
  · rw [us_nat (n := 8) (by decide +kernel), bs_nat (n := 8) (by decide +kernel), sr_nat _ _ (by omega)]
  · rw [us_nat (n := 0) (by decide +kernel), bs_nat (n := 0) (by decide +kernel), sr_nat _ _ (by omega)]
theorem dj_nn : ∀ j, j < 4 → ¬ dj j < 0 := by decide +kernel
theorem dj_up : ∀ j, j < 4 → dj j + ci (-8) = dj (j + 1) := by decide +kernel
theorem dj_0 : dj 0 = c8 24 := by decide +kernel
theorem dj_4 : dj 4 < 0 := by decide +kernel
theorem rm_4 : ∀ i, i < 20 → rm (cn i) (ci 4) = cn (i % 4) := by decide +kernel
/-- the byte that feed's i-th place takes -/
def w5 (a1 a2 a3 a4 a5 : Int32) (i : Nat) : Int32 := btQ (if 4 ≤ i then if 8 ≤ i then if 12 ≤ i then if 16 ≤ i then a5 else a4 else a3 else a2 else a1) (i % 4)
def FdQ (r c t l n : Nat) (g : Nat → Int32) (a u : mG) : Prop := u.1 r c = cn (l + n) ∧ (∀ i, i ≠ r → i ≠ t → u.1 i = a.1 i) ∧ (∀ k, k ≠ c → u.1 r k = a.1 r k) ∧ (∀ k, k < l → u.1 t k = a.1 t k) ∧ ∀ i, i < n → u.1 t (l + i) = g i
theorem FD_0 {r c t l : Nat} {g : Nat → Int32} {a : mG} (h : a.1 r c = cn l) : FdQ r c t l 0 g a a := ⟨h, fun _ _ _ => rfl, fun _ _ => rfl, fun _ _ => rfl, fun _ hi => absurd hi (by omega)⟩
theorem FD_step {r c t l n : Nat} {g : Nat → Int32} {a u : mG} {v : Int32} (hrt : r ≠ t) (f : FdQ r c t l n g a u) (hb : l + n + 1 < 2147483648) (hv : v = g n) : FdQ r c t l (n + 1) g a (mu (mu u.1 t (l + n) v) r c (mu u.1 t (l + n) v r c + ci 1), u.2) := by
  obtain ⟨f1, f2, f3, f4, f5⟩ := f
  subst hv
  refine ⟨?_, fun i h1 h2 => ?_, fun k hk => ?_, fun k hk => ?_, fun i hi => ?_⟩
  all_goals dsimp only
  · rw [mu_same, mu_row hrt, f1, cnu hb]; rfl
  · rw [mu_row h1, mu_row h2]; exact f2 i h1 h2
  · rw [mu_cell (Or.inr hk), mu_row hrt]; exact f3 k hk
  · rw [mu_row (Ne.symm hrt), mu_cell (Or.inr (by omega))]; exact f4 k hk
  · rw [mu_row (Ne.symm hrt)]
    by_cases e : i = n
    · subst e; exact mu_same
    · rw [mu_cell (Or.inr (by omega))]; exact f5 i (by omega)
/-! the class -/
theorem V_put64 {s : mG} {k : Nat} {v : Int32} (h : k < 400) : F_X11_put 64 (cn k) v s = some (mu s.1 64 k v, s.2) := by
  have h1 : mal 64 = some 400 := by decide +kernel
  have h2 : SH[64]? = some (.inl (0, 400, [])) := by decide +kernel
  unfold F_X11_put
  rw [if_neg (cn_nn (by omega)), h1, b1_some, if_neg (fun q => absurd ((cn_le (by omega) (by omega)).mp q) (by omega)), h2]
  simp only [bs]
  rw [if_neg (cn_ix h (by omega)), cn_nat (by omega)]
theorem V_take4 {g : Nat → Int32} {x : Int32} {l n : Nat} {z s : mG} (hg : ∀ i, i < 4 → g (n + i) = btQ x i) (f : FdQ 55 9 64 l n g z s) (hl : l + n + 4 ≤ 400) : pk (F_X7_takeFour x s) (FdQ 55 9 64 l (n + 4) g z) := by
  unfold F_X7_takeFour F_X7_takeFour_L3
  refine pk_whl (fun v => v.1 = x ∧ ∃ j, j ≤ 4 ∧ v.2.1 = dj j ∧ FdQ 55 9 64 l (n + j) g z v.2.2) ⟨rfl, 0, by omega, dj_0.symm, f⟩ (fun v hv => ?_)
  obtain ⟨x1, x2, u⟩ := v
  obtain ⟨e1, j, hj, e2, q⟩ := hv
  have e1 : x1 = x := e1
  have e2 : x2 = dj j := e2
  have q : FdQ 55 9 64 l (n + j) g z u := q
  subst e1; subst e2
  unfold F_X7_takeFour_B3
  by_cases h4 : j = 4
  · subst h4
    rw [if_pos dj_4]
    exact pk_some (show FdQ 55 9 64 l (n + 4) g z u from q)
  · have hj : j < 4 := by omega
    rw [if_neg (dj_nn j hj), q.1, V_put64 (by omega), b1_some]
    dsimp only
    have q2 := FD_step (v := ushr x1 (dj j) &&& c16 255) (by decide) q (by omega) (by rw [bt_u hj]; exact (hg j hj).symm)
    rw [dj_up j hj]
    exact pk_some (show _ ∧ _ from ⟨rfl, j + 1, by omega, rfl, q2⟩)
theorem V_feedC {a1 a2 a3 a4 a5 : Int32} {s : mG} {l : Nat} (h9 : s.1 55 9 = cn l) (hl : l ≤ 400) : pk (F_X11_feed a1 a2 a3 a4 a5 s) (fun τ => (l + 20 ≤ 400 ∧ FdQ 55 9 64 l 20 (w5 a1 a2 a3 a4 a5) s τ.2) ∨ (¬ l + 20 ≤ 400 ∧ τ.2 = s)) := by
  unfold F_X11_feed F_X7_hasSpaceFor
  have e20 : s.1 55 9 + c8 20 = cn (l + 20) := by rw [h9]; exact cn_add (b := 20) (by omega)
  have e400 : (c16 400 < cn (l + 20)) ↔ 400 < l + 20 := cn_lt (a := 400) (by omega) (by omega)
  rw [e20]
  by_cases h : l + 20 ≤ 400
  · rw [if_neg (fun q => absurd (e400.mp q) (by omega)), b1_some, if_neg c1n0]
    refine pk_b1 (V_take4 (n := 0) (g := w5 a1 a2 a3 a4 a5) (fun i hi => ?_) (FD_0 h9) (by omega)) (fun s5 f5 => ?_)
    · unfold w5
      rw [if_neg (by omega), show (0 + i) % 4 = i by omega]
    refine pk_b1 (V_take4 (fun i hi => ?_) f5 (by omega)) (fun s7 f7 => ?_)
    · unfold w5
      rw [if_pos (by omega), if_neg (by omega), show (0 + 4 + i) % 4 = i by omega]
    refine pk_b1 (V_take4 (fun i hi => ?_) f7 (by omega)) (fun s9 f9 => ?_)
    · unfold w5
      rw [if_pos (by omega), if_pos (by omega), if_neg (by omega), show (0 + 4 + 4 + i) % 4 = i by omega]
    refine pk_b1 (V_take4 (fun i hi => ?_) f9 (by omega)) (fun s11 f11 => ?_)
    · unfold w5
      rw [if_pos (by omega), if_pos (by omega), if_pos (by omega), if_neg (by omega), show (0 + 4 + 4 + 4 + i) % 4 = i by omega]
    refine pk_b1 (V_take4 (fun i hi => ?_) f11 (by omega)) (fun s13 f13 => ?_)
    · unfold w5
      rw [if_pos (by omega), if_pos (by omega), if_pos (by omega), if_pos (by omega), show (0 + 4 + 4 + 4 + 4 + i) % 4 = i by omega]
    exact pk_some (Or.inl ⟨h, f13⟩)
  · rw [if_pos (e400.mpr (by omega)), b1_some, if_pos c0e0]
    exact pk_some (Or.inr ⟨h, rfl⟩)
/-! the reference -/
theorem V_feed71 {g : Nat → Int32} {x1 x2 x3 x4 x5 y : Int32} {l i : Nat} {z u : mG} {P : Int32 × Int32 × Int32 × Int32 × Int32 × Int32 × mG → Prop} {Q : Int32 × mG → Prop} (hi : i < 20) (hl : l + 20 ≤ 400) (hg : g i = btQ y (i % 4)) (f : FdQ 88 15 95 l i g z u) (k : ∀ w, FdQ 88 15 95 l (i + 1) g z w → P (x1, x2, x3, x4, x5, cn (i + 1), w)) : pk (F_X12_feed_71 x1 x2 x3 x4 x5 (cn i) y u) (se P Q) := by
  unfold F_X12_feed_71
  rw [f.1, if_neg (cn_ix (by omega) (by omega)), cn_nat (by omega), rm_4 i hi, cnu (by omega)]
  dsimp only
  exact pk_some (show P _ from k _ (FD_step (v := (y >>> (dj (i % 4) &&& 31)) &&& c16 255) (by decide) f (by omega) hg.symm))
theorem V_feedR {a1 a2 a3 a4 a5 : Int32} {s : mG} {l : Nat} (h15 : s.1 88 15 = cn l) (hl : l ≤ 400) : pk (F_X12_feed a1 a2 a3 a4 a5 s) (fun τ => (l + 20 ≤ 400 ∧ FdQ 88 15 95 l 20 (w5 a1 a2 a3 a4 a5) s τ.2) ∨ (¬ l + 20 ≤ 400 ∧ τ.2 = s)) := by
  unfold F_X12_feed
  have e20 : s.1 88 15 + c8 20 = cn (l + 20) := by rw [h15]; exact cn_add (b := 20) (by omega)
  have e400 : (cn (l + 20) ≤ c16 400) ↔ l + 20 ≤ 400 := cn_le (b := 400) (by omega) (by omega)
  rw [e20]
  by_cases h : l + 20 ≤ 400
  · rw [if_pos (e400.mpr h)]
    unfold F_X12_feed_L18
    refine pk_whl (fun v => v.1 = a1 ∧ v.2.1 = a2 ∧ v.2.2.1 = a3 ∧ v.2.2.2.1 = a4 ∧ v.2.2.2.2.1 = a5 ∧ ∃ i, i ≤ 20 ∧ v.2.2.2.2.2.1 = cn i ∧ FdQ 88 15 95 l i (w5 a1 a2 a3 a4 a5) s v.2.2.2.2.2.2) ⟨rfl, rfl, rfl, rfl, rfl, 0, by omega, rfl, FD_0 h15⟩ (fun v hv => ?_)
    obtain ⟨x1, x2, x3, x4, x5, x6, u⟩ := v
    obtain ⟨e1, e2, e3, e4, e5, i, hi, e6, f⟩ := hv
    have e1 : x1 = a1 := e1
    have e2 : x2 = a2 := e2
    have e3 : x3 = a3 := e3
    have e4 : x4 = a4 := e4
    have e5 : x5 = a5 := e5
    have e6 : x6 = cn i := e6
    have f : FdQ 88 15 95 l i (w5 a1 a2 a3 a4 a5) s u := f
    subst e1; subst e2; subst e3; subst e4; subst e5; subst e6
    have q4 : (ci 4 ≤ cn i) ↔ 4 ≤ i := cn_le (a := 4) (by omega) (by omega)
    have q8 : (c8 8 ≤ cn i) ↔ 8 ≤ i := cn_le (a := 8) (by omega) (by omega)
    have q12 : (c8 12 ≤ cn i) ↔ 12 ≤ i := cn_le (a := 12) (by omega) (by omega)
    have q16 : (c8 16 ≤ cn i) ↔ 16 ≤ i := cn_le (a := 16) (by omega) (by omega)
    have q20 : (c8 20 ≤ cn i) ↔ 20 ≤ i := cn_le (a := 20) (by omega) (by omega)
    unfold F_X12_feed_B18
    by_cases h20 : 20 ≤ i
    · rw [if_pos (q20.mpr h20)]
      have hi : i = 20 := by omega
      subst hi
      exact pk_some (show _ ∨ _ from Or.inl ⟨h, f⟩)
    have hi : i < 20 := by omega
    have go : ∀ y, w5 x1 x2 x3 x4 x5 i = btQ y (i % 4) → pk (F_X12_feed_71 x1 x2 x3 x4 x5 (cn i) y u) (se (fun v => v.1 = x1 ∧ v.2.1 = x2 ∧ v.2.2.1 = x3 ∧ v.2.2.2.1 = x4 ∧ v.2.2.2.2.1 = x5 ∧ ∃ i, i ≤ 20 ∧ v.2.2.2.2.2.1 = cn i ∧ FdQ 88 15 95 l i (w5 x1 x2 x3 x4 x5) s v.2.2.2.2.2.2) (fun τ => (l + 20 ≤ 400 ∧ FdQ 88 15 95 l 20 (w5 x1 x2 x3 x4 x5) s τ.2) ∨ (¬ l + 20 ≤ 400 ∧ τ.2 = s))) :=
      fun y hg => V_feed71 hi h hg f (fun w q => ⟨rfl, rfl, rfl, rfl, rfl, i + 1, by omega, rfl, q⟩)
    rw [if_neg (fun q => h20 (q20.mp q))]
    by_cases h4 : 4 ≤ i
    · rw [if_pos (q4.mpr h4)]
      by_cases h8 : 8 ≤ i
      · rw [if_pos (q8.mpr h8)]
        by_cases h12 : 12 ≤ i
        · rw [if_pos (q12.mpr h12)]
          by_cases h16 : 16 ≤ i
          · rw [if_pos (q16.mpr h16)]
            exact go _ (by unfold w5; rw [if_pos h4, if_pos h8, if_pos h12, if_pos h16])
          · rw [if_neg (fun q => h16 (q16.mp q))]
            exact go _ (by unfold w5; rw [if_pos h4, if_pos h8, if_pos h12, if_neg h16])
        · rw [if_neg (fun q => h12 (q12.mp q))]
          exact go _ (by unfold w5; rw [if_pos h4, if_pos h8, if_neg h12])
      · rw [if_neg (fun q => h8 (q8.mp q))]
        exact go _ (by unfold w5; rw [if_pos h4, if_neg h8])
    · rw [if_neg (fun q => h4 (q4.mp q))]
      exact go _ (by unfold w5; rw [if_neg h4])
  · rw [if_neg (fun q => h (e400.mp q))]
    exact pk_some (Or.inr ⟨h, rfl⟩)
/-! end -/
theorem V_endC {a1 : Int32} {s : mG} : F_X11_end a1 s = if wi a1 (ci 0) (s.1 55 9) = 0 then some (ci 0, s) else some (ci 1, (mu s.1 55 9 a1, s.2)) := by
  unfold F_X11_end
  rw [V_within, b1_some]
theorem V_endR {a1 : Int32} {s : mG} : F_X12_end a1 s = if wi a1 (ci 0) (s.1 88 15) = 0 then some (ci 0, s) else some (ci 1, (mu s.1 88 15 a1, s.2)) := by
  unfold F_X12_end
  rw [F_isIn, b1_some]
theorem wi_cn {x : Int32} {l : Nat} (hl : l < 2147483648) (h : ¬ wi x (ci 0) (cn l) = 0) : ∃ m, m ≤ l ∧ x = cn m := by
  by_cases q : 0 ≤ x.toInt ∧ x.toInt ≤ l
  · exact ⟨x.toInt.toNat, by omega, cnof q.1⟩
  · exact absurd (wi_out (by rw [show (ci 0).toInt = 0 by decide, cn_t hl]; exact q)) h
end
end
/-! 5v0.cells -/
section
noncomputable section
/-! THE REFERENCE'S CELLS 15, 22, 24 of row 88 stay -/
def KQw (z s : mG) : Prop := s.1 88 15 = z.1 88 15 ∧ s.1 88 22 = z.1 88 22 ∧ s.1 88 24 = z.1 88 24
theorem kqw0 {s : mG} : KQw s s := ⟨rfl, rfl, rfl⟩
theorem KQw_mu {z s : mG} {j l : Nat} {w : Int32} (h : KQw z s) (d : 88 ≠ j ∨ (l ≠ 15 ∧ l ≠ 22 ∧ l ≠ 24)) : KQw z (mu s.1 j l w, s.2) :=
  ⟨(mu_cell (d.elim Or.inl (fun q => Or.inr (Ne.symm q.1)))).trans h.1, (mu_cell (d.elim Or.inl (fun q => Or.inr (Ne.symm q.2.1)))).trans h.2.1, (mu_cell (d.elim Or.inl (fun q => Or.inr (Ne.symm q.2.2)))).trans h.2.2⟩
theorem QQ_X12_forgets {z : mG} {s : mG} (h : KQw z s) : pk (F_X12_forgets s) (fun τ => KQw z τ) := by
  unfold F_X12_forgets
  extract_lets +onlyGivenNames s_1
  have h_2 : KQw z s_1 := KQw_mu h (Or.inr (by decide))
  clear_value s_1
  exact pk_some h_2
theorem QQ_X12_state {z : mG} {a1 : Int32} {s : mG} (h : KQw z s) : pk (F_X12_state a1 s) (fun τ => KQw z τ.2) := by
  unfold F_X12_state
  extract_lets +onlyGivenNames s_1
  have h_2 : KQw z s_1 := KQw_mu h (Or.inl (by decide))
  clear_value s_1
  refine pk_b1 (QQ_X12_forgets h_2) (fun s_3 (h_4 : KQw z s_3) => ?_)
  exact pk_some h_4
theorem QQ_X12_draw {z : mG} {a1 : Int32} {s : mG} (h : KQw z s) : pk (F_X12_draw a1 s) (fun τ => KQw z τ.2) := by
  unfold F_X12_draw
  extract_lets +onlyGivenNames s_1
  have h_2 : KQw z s_1 := KQw_mu h (Or.inl (by decide))
  clear_value s_1
  refine pk_nn ?_
  extract_lets +onlyGivenNames v_3
  clear_value v_3
  exact pk_some h_2
theorem QQ_X12_guest_31 {z : mG} {s : mG} (h : KQw z s) : pk (F_X12_guest_31 s) (fun τ => KQw z τ.2) := by
  unfold F_X12_guest_31
  exact pk_some h
theorem QQ_X12_guest_B94 {z : mG} {x3 : Int32} {x4 : Int32} {s : mG} (h : KQw z s) : pk (F_X12_guest_B94 x3 x4 s) (se (fun τ => KQw z τ.2.2) (fun τ => KQw z τ.2)) := by
  unfold F_X12_guest_B94
  refine pk_ite ?_ ?_
  · extract_lets +onlyGivenNames s_1
    have h_2 : KQw z s_1 := KQw_mu h (Or.inl (by decide))
    clear_value s_1
    refine pk_b1 (QQ_X12_forgets h_2) (fun s_3 (h_4 : KQw z s_3) => ?_)
    exact pk_some h_4
  · refine pk_nn ?_
    extract_lets +onlyGivenNames s_5
    have h_6 : KQw z s_5 := KQw_mu h (Or.inl (by decide))
    clear_value s_5
    exact pk_some h_6
theorem QQ_X12_guest_L94 {z : mG} {x3 : Int32} {x4 : Int32} {s : mG} (h : KQw z s) : pk (F_X12_guest_L94 x3 x4 s) (fun τ => KQw z τ.2) := by
  unfold F_X12_guest_L94
  refine pk_whl (fun v => KQw z v.2.2) h (fun v hv => ?_)
  obtain ⟨y0, y1, y2⟩ := v
  exact QQ_X12_guest_B94 hv
theorem QQ_X12_guest {z : mG} {a1 : Int32} {a2 : Int32} {s : mG} (h : KQw z s) : pk (F_X12_guest a1 a2 s) (fun τ => KQw z τ.2) := by
  unfold F_X12_guest
  refine pk_b1 pk_top (fun _ _ => ?_)
  refine pk_ite ?_ ?_
  · exact (QQ_X12_guest_31 h)
  · refine pk_b1 pk_top (fun _ _ => ?_)
    refine pk_ite ?_ ?_
    · exact (QQ_X12_guest_31 h)
    · refine pk_ite ?_ ?_
      · exact (QQ_X12_guest_31 h)
      · refine pk_nn ?_
        extract_lets +onlyGivenNames s_1
        have h_2 : KQw z s_1 := KQw_mu h (Or.inl (by decide))
        clear_value s_1
        refine pk_nn ?_
        extract_lets +onlyGivenNames s_3
        have h_4 : KQw z s_3 := KQw_mu h_2 (Or.inl (by decide))
        clear_value s_3
        refine pk_nn ?_
        extract_lets +onlyGivenNames s_5
        have h_6 : KQw z s_5 := KQw_mu h_4 (Or.inl (by decide))
        clear_value s_5
        refine pk_nn ?_
        extract_lets +onlyGivenNames s_7
        have h_8 : KQw z s_7 := KQw_mu h_6 (Or.inl (by decide))
        clear_value s_7
        refine pk_nn ?_
        extract_lets +onlyGivenNames s_9
        have h_10 : KQw z s_9 := KQw_mu h_8 (Or.inl (by decide))
        clear_value s_9
        exact (QQ_X12_guest_L94 h_10)
theorem QQ_X12_set_110 {z : mG} {s : mG} (h : KQw z s) : pk (F_X12_set_110 s) (fun τ => KQw z τ.2) := by
  unfold F_X12_set_110
  refine pk_b1 (QQ_X12_forgets h) (fun s_1 (h_2 : KQw z s_1) => ?_)
  exact pk_some h_2
theorem QQ_X12_set_92 {z : mG} {s : mG} (h : KQw z s) : pk (F_X12_set_92 s) (fun τ => KQw z τ.2) := by
  unfold F_X12_set_92
  exact pk_some h
theorem QQ_X12_set {z : mG} {a1 : Int32} {a2 : Int32} {a3 : Int32} {s : mG} (h : KQw z s) : pk (F_X12_set a1 a2 a3 s) (fun τ => KQw z τ.2) := by
  unfold F_X12_set
  refine pk_ite ?_ ?_
  · refine pk_b1 pk_top (fun _ _ => ?_)
    refine pk_ite ?_ ?_
    · exact pk_some h
    · extract_lets +onlyGivenNames s_1
      have h_2 : KQw z s_1 := KQw_mu h (Or.inl (by decide))
      clear_value s_1
      exact (QQ_X12_set_110 h_2)
  · refine pk_ite ?_ ?_
    · refine pk_b1 pk_top (fun _ _ => ?_)
      refine pk_ite ?_ ?_
      · exact pk_some h
      · extract_lets +onlyGivenNames s_3
        have h_4 : KQw z s_3 := KQw_mu h (Or.inl (by decide))
        clear_value s_3
        exact (QQ_X12_set_110 h_4)
    · refine pk_ite ?_ ?_
      · refine pk_b1 pk_top (fun _ _ => ?_)
        refine pk_ite ?_ ?_
        · exact (QQ_X12_set_92 h)
        · refine pk_b1 pk_top (fun _ _ => ?_)
          refine pk_ite ?_ ?_
          · exact (QQ_X12_set_92 h)
          · refine pk_nn ?_
            extract_lets +onlyGivenNames s_5
            have h_6 : KQw z s_5 := KQw_mu h (Or.inl (by decide))
            clear_value s_5
            exact (QQ_X12_set_110 h_6)
      · exact pk_some h
theorem QQ_X12_next0_26 {z : mG} {s : mG} (h : KQw z s) : pk (F_X12_next0_26 s) (se (fun τ => KQw z τ) (fun τ => KQw z τ)) := by
  unfold F_X12_next0_26
  extract_lets +onlyGivenNames s_1
  have h_2 : KQw z s_1 := KQw_mu h (Or.inr (by decide))
  clear_value s_1
  exact pk_some h_2
theorem QQ_X12_next0_303 {z : mG} {y1 : Int32} {s : mG} (h : KQw z s) : pk (F_X12_next0_303 y1 s) (fun τ => KQw z τ) := by
  unfold F_X12_next0_303
  extract_lets +onlyGivenNames s_1
  have h_2 : KQw z s_1 := KQw_mu h (Or.inr (by decide))
  clear_value s_1
  exact pk_some h_2
theorem QQ_X12_next0_289 {z : mG} {x1 : Int32} {y0 : Int32} {s : mG} (h : KQw z s) : pk (F_X12_next0_289 x1 y0 s) (fun τ => KQw z τ) := by
  unfold F_X12_next0_289
  refine pk_ite ?_ ?_
  · exact (QQ_X12_next0_303 h)
  · exact (QQ_X12_next0_303 h)
theorem QQ_X12_next0_284 {z : mG} {x1 : Int32} {s : mG} (h : KQw z s) : pk (F_X12_next0_284 x1 s) (fun τ => KQw z τ) := by
  unfold F_X12_next0_284
  exact (QQ_X12_next0_289 h)
theorem QQ_X12_next0_208 {z : mG} {y1 : Int32} {s : mG} (h : KQw z s) : pk (F_X12_next0_208 y1 s) (fun τ => KQw z τ) := by
  unfold F_X12_next0_208
  extract_lets +onlyGivenNames s_1
  have h_2 : KQw z s_1 := KQw_mu h (Or.inr (by decide))
  clear_value s_1
  exact pk_some h_2
theorem QQ_X12_next0_176 {z : mG} {s : mG} (h : KQw z s) : pk (F_X12_next0_176 s) (se (fun τ => KQw z τ) (fun τ => KQw z τ)) := by
  unfold F_X12_next0_176
  extract_lets +onlyGivenNames s_1
  have h_2 : KQw z s_1 := KQw_mu h (Or.inr (by decide))
  clear_value s_1
  exact pk_some h_2
theorem QQ_X12_next0_B126 {z : mG} {s : mG} (h : KQw z s) : pk (F_X12_next0_B126 s) (se (fun τ => KQw z τ) (fun τ => KQw z τ)) := by
  unfold F_X12_next0_B126
  refine pk_b1 pk_top (fun _ _ => ?_)
  refine pk_b1 pk_top (fun _ _ => ?_)
  refine pk_ite ?_ ?_
  · refine pk_ite ?_ ?_
    · refine pk_b1r ?_
      exact (QQ_X12_next0_208 h)
    · refine pk_b1r ?_
      exact (QQ_X12_next0_208 h)
  · refine pk_ite ?_ ?_
    · exact (QQ_X12_next0_176 h)
    · refine pk_b1 pk_top (fun _ _ => ?_)
      extract_lets +onlyGivenNames s_1
      have h_2 : KQw z s_1 := KQw_mu h (Or.inr (by decide))
      clear_value s_1
      exact (QQ_X12_next0_176 h_2)
theorem QQ_X12_next0_L126 {z : mG} {s : mG} (h : KQw z s) : pk (F_X12_next0_L126 s) (fun τ => KQw z τ) := by
  unfold F_X12_next0_L126
  refine pk_whl (fun v => KQw z v) h (fun v hv => ?_)
  exact QQ_X12_next0_B126 hv
theorem QQ_X12_next0_B76 {z : mG} {s : mG} (h : KQw z s) : pk (F_X12_next0_B76 s) (se (fun τ => KQw z τ) (fun τ => KQw z τ)) := by
  unfold F_X12_next0_B76
  refine pk_b1 pk_top (fun _ _ => ?_)
  refine pk_b1 pk_top (fun _ _ => ?_)
  refine pk_ite ?_ ?_
  · refine pk_b1 pk_top (fun _ _ => ?_)
    extract_lets +onlyGivenNames s_1
    have h_2 : KQw z s_1 := KQw_mu h (Or.inr (by decide))
    clear_value s_1
    exact pk_some h_2
  · extract_lets +onlyGivenNames s_3
    have h_4 : KQw z s_3 := KQw_mu h (Or.inr (by decide))
    clear_value s_3
    exact pk_some h_4
theorem QQ_X12_next0_L76 {z : mG} {s : mG} (h : KQw z s) : pk (F_X12_next0_L76 s) (fun τ => KQw z τ) := by
  unfold F_X12_next0_L76
  refine pk_whl (fun v => KQw z v) h (fun v hv => ?_)
  exact QQ_X12_next0_B76 hv
theorem QQ_X12_next0_B0 {z : mG} {s : mG} (h : KQw z s) : pk (F_X12_next0_B0 s) (se (fun τ => KQw z τ) (fun τ => KQw z τ)) := by
  unfold F_X12_next0_B0
  refine pk_b1 pk_top (fun _ _ => ?_)
  refine pk_ite ?_ ?_
  · exact (QQ_X12_next0_26 h)
  · refine pk_b1 pk_top (fun _ _ => ?_)
    refine pk_ite ?_ ?_
    · exact (QQ_X12_next0_26 h)
    · extract_lets +onlyGivenNames s_1
      have h_2 : KQw z s_1 := KQw_mu h (Or.inr (by decide))
      clear_value s_1
      refine pk_b1 pk_top (fun _ _ => ?_)
      refine pk_ite ?_ ?_
      · extract_lets +onlyGivenNames s_3
        have h_4 : KQw z s_3 := KQw_mu h_2 (Or.inr (by decide))
        clear_value s_3
        exact pk_some h_4
      · refine pk_b1 pk_top (fun _ _ => ?_)
        refine pk_ite ?_ ?_
        · refine pk_b1 pk_top (fun _ _ => ?_)
          refine pk_ite ?_ ?_
          · extract_lets +onlyGivenNames s_5
            have h_6 : KQw z s_5 := KQw_mu h_2 (Or.inr (by decide))
            clear_value s_5
            refine pk_ite ?_ ?_
            · refine pk_b1r ?_
              exact (QQ_X12_next0_284 h_6)
            · refine pk_ite ?_ ?_
              · refine pk_b1r ?_
                exact (QQ_X12_next0_284 h_6)
              · refine pk_ite ?_ ?_
                · refine pk_b1r ?_
                  exact (QQ_X12_next0_284 h_6)
                · refine pk_ite ?_ ?_
                  · refine pk_b1r ?_
                    exact (QQ_X12_next0_284 h_6)
                  · refine pk_ite ?_ ?_
                    · refine pk_b1r ?_
                      exact (QQ_X12_next0_284 h_6)
                    · refine pk_ite ?_ ?_
                      · refine pk_b1r ?_
                        exact (QQ_X12_next0_284 h_6)
                      · refine pk_ite ?_ ?_
                        · refine pk_b1r ?_
                          exact (QQ_X12_next0_284 h_6)
                        · refine pk_ite ?_ ?_
                          · refine pk_b1r ?_
                            exact (QQ_X12_next0_284 h_6)
                          · refine pk_ite ?_ ?_
                            · refine pk_b1r ?_
                              exact (QQ_X12_next0_284 h_6)
                            · refine pk_ite ?_ ?_
                              · refine pk_b1r ?_
                                exact (QQ_X12_next0_284 h_6)
                              · refine pk_b1r ?_
                                exact (QQ_X12_next0_289 h_6)
          · extract_lets +onlyGivenNames s_7
            have h_8 : KQw z s_7 := KQw_mu h_2 (Or.inr (by decide))
            clear_value s_7
            refine pk_b1r ?_
            exact (QQ_X12_next0_L126 h_8)
        · refine pk_b1r ?_
          exact (QQ_X12_next0_L76 h_2)
theorem QQ_X12_next0_L0 {z : mG} {s : mG} (h : KQw z s) : pk (F_X12_next0_L0 s) (fun τ => KQw z τ) := by
  unfold F_X12_next0_L0
  refine pk_whl (fun v => KQw z v) h (fun v hv => ?_)
  exact QQ_X12_next0_B0 hv
theorem QQ_X12_next0 {z : mG} {s : mG} (h : KQw z s) : pk (F_X12_next0 s) (fun τ => KQw z τ) := by
  unfold F_X12_next0
  exact (QQ_X12_next0_L0 h)
theorem QQ_X12_bad {z : mG} {a1 : Int32} {s : mG} (h : KQw z s) : pk (F_X12_bad a1 s) (fun τ => KQw z τ.2) := by
  unfold F_X12_bad
  extract_lets +onlyGivenNames s_1
  have h_2 : KQw z s_1 := KQw_mu h (Or.inr (by decide))
  clear_value s_1
  extract_lets +onlyGivenNames s_3
  have h_4 : KQw z s_3 := KQw_mu h_2 (Or.inr (by decide))
  clear_value s_3
  exact pk_some h_4
theorem QQ_X12_need {z : mG} {a1 : Int32} {s : mG} (h : KQw z s) : pk (F_X12_need a1 s) (fun τ => KQw z τ.2) := by
  unfold F_X12_need
  refine pk_ite ?_ ?_
  · refine pk_b1 (QQ_X12_next0 h) (fun s_1 (h_2 : KQw z s_1) => ?_)
    exact pk_some h_2
  · refine pk_b2 (QQ_X12_bad h) (fun _ s_3 (h_4 : KQw z s_3) => ?_)
    refine pk_pp ?_
    exact pk_some h_4
theorem QQ_X12_lay {z : mG} {a1 : Int32} {a2 : Int32} {s : mG} (h : KQw z s) : pk (F_X12_lay a1 a2 s) (fun τ => KQw z τ) := by
  unfold F_X12_lay
  refine pk_nn ?_
  extract_lets +onlyGivenNames s_1
  have h_2 : KQw z s_1 := KQw_mu h (Or.inl (by decide))
  clear_value s_1
  refine pk_nn ?_
  extract_lets +onlyGivenNames s_3
  have h_4 : KQw z s_3 := KQw_mu h_2 (Or.inl (by decide))
  clear_value s_3
  extract_lets +onlyGivenNames s_5
  have h_6 : KQw z s_5 := KQw_mu h_4 (Or.inr (by decide))
  clear_value s_5
  exact pk_some h_6
theorem QQ_X12_opens {z : mG} {s : mG} (h : KQw z s) : pk (F_X12_opens s) (fun τ => KQw z τ.2) := by
  unfold F_X12_opens
  refine pk_ite ?_ ?_
  · refine pk_b2 (QQ_X12_bad h) (fun _ s_1 (h_2 : KQw z s_1) => ?_)
    refine pk_pp ?_
    exact pk_some h_2
  · extract_lets +onlyGivenNames s_3
    have h_4 : KQw z s_3 := KQw_mu h (Or.inr (by decide))
    clear_value s_3
    refine pk_b1 (QQ_X12_next0 h_4) (fun s_5 (h_6 : KQw z s_5) => ?_)
    exact pk_some h_6
theorem QQ_X12_unit_46 {z : mG} {y1 : Int32} {s : mG} (h : KQw z s) : pk (F_X12_unit_46 y1 s) (fun τ => KQw z τ.2) := by
  unfold F_X12_unit_46
  refine pk_b1 (QQ_X12_lay h) (fun s_1 (h_2 : KQw z s_1) => ?_)
  refine pk_b1 (QQ_X12_next0 h_2) (fun s_3 (h_4 : KQw z s_3) => ?_)
  exact pk_some h_4
theorem QQ_X12_unit_30 {z : mG} {x1 : Int32} {s : mG} (h : KQw z s) : pk (F_X12_unit_30 x1 s) (fun τ => KQw z τ.2) := by
  unfold F_X12_unit_30
  refine pk_ite ?_ ?_
  · exact (QQ_X12_unit_46 h)
  · exact (QQ_X12_unit_46 h)
theorem QQ_X12_unit {z : mG} {s : mG} (h : KQw z s) : pk (F_X12_unit s) (fun τ => KQw z τ.2) := by
  unfold F_X12_unit
  refine pk_b1 pk_top (fun _ _ => ?_)
  refine pk_ite ?_ ?_
  · exact (QQ_X12_unit_30 h)
  · refine pk_ite ?_ ?_
    · refine pk_b2 (QQ_X12_bad h) (fun _ s_1 (h_2 : KQw z s_1) => ?_)
      refine pk_pp ?_
      exact pk_some h_2
    · exact (QQ_X12_unit_30 h)
theorem QQ_X12_product_112 {z : mG} {s : mG} (h : KQw z s) : pk (F_X12_product_112 s) (se (fun τ => KQw z τ) (fun τ => KQw z τ.2)) := by
  unfold F_X12_product_112
  exact pk_some h
theorem QQ_X12_product_44 {z : mG} {y0 : Int32} {s : mG} (h : KQw z s) : pk (F_X12_product_44 y0 s) (se (fun τ => KQw z τ) (fun τ => KQw z τ.2)) := by
  unfold F_X12_product_44
  refine pk_b1 (QQ_X12_next0 h) (fun s_1 (h_2 : KQw z s_1) => ?_)
  refine pk_ite ?_ ?_
  · refine pk_b2 (QQ_X12_unit h_2) (fun _ s_3 (h_4 : KQw z s_3) => ?_)
    refine pk_ite ?_ ?_
    · exact pk_some h_4
    · refine pk_b1 (QQ_X12_lay h_4) (fun s_5 (h_6 : KQw z s_5) => ?_)
      exact (QQ_X12_product_112 h_6)
  · refine pk_ite ?_ ?_
    · refine pk_ite ?_ ?_
      · refine pk_b2 (QQ_X12_bad h_2) (fun _ s_7 (h_8 : KQw z s_7) => ?_)
        refine pk_pp ?_
        exact pk_some h_8
      · refine pk_b1 (QQ_X12_next0 h_2) (fun s_9 (h_10 : KQw z s_9) => ?_)
        refine pk_b1 (QQ_X12_lay h_10) (fun s_11 (h_12 : KQw z s_11) => ?_)
        exact (QQ_X12_product_112 h_12)
    · refine pk_b2 (QQ_X12_bad h_2) (fun _ s_13 (h_14 : KQw z s_13) => ?_)
      refine pk_pp ?_
      exact pk_some h_14
theorem QQ_X12_product_29 {z : mG} {s : mG} (h : KQw z s) : pk (F_X12_product_29 s) (se (fun τ => KQw z τ) (fun τ => KQw z τ.2)) := by
  unfold F_X12_product_29
  refine pk_ite ?_ ?_
  · exact (QQ_X12_product_44 h)
  · exact (QQ_X12_product_44 h)
theorem QQ_X12_product_B9 {z : mG} {s : mG} (h : KQw z s) : pk (F_X12_product_B9 s) (se (fun τ => KQw z τ) (fun τ => KQw z τ.2)) := by
  unfold F_X12_product_B9
  refine pk_ite ?_ ?_
  · exact (QQ_X12_product_29 h)
  · refine pk_ite ?_ ?_
    · exact (QQ_X12_product_29 h)
    · exact pk_some h
theorem QQ_X12_product_L9 {z : mG} {s : mG} (h : KQw z s) : pk (F_X12_product_L9 s) (fun τ => KQw z τ.2) := by
  unfold F_X12_product_L9
  refine pk_whl (fun v => KQw z v) h (fun v hv => ?_)
  exact QQ_X12_product_B9 hv
theorem QQ_X12_product {z : mG} {s : mG} (h : KQw z s) : pk (F_X12_product s) (fun τ => KQw z τ.2) := by
  unfold F_X12_product
  refine pk_b2 (QQ_X12_unit h) (fun _ s_1 (h_2 : KQw z s_1) => ?_)
  refine pk_ite ?_ ?_
  · exact pk_some h_2
  · exact (QQ_X12_product_L9 h_2)
theorem QQ_X12_sumUp_46 {z : mG} {y0 : Int32} {s : mG} (h : KQw z s) : pk (F_X12_sumUp_46 y0 s) (se (fun τ => KQw z τ) (fun τ => KQw z τ.2)) := by
  unfold F_X12_sumUp_46
  refine pk_b1 (QQ_X12_next0 h) (fun s_1 (h_2 : KQw z s_1) => ?_)
  refine pk_b2 (QQ_X12_product h_2) (fun _ s_3 (h_4 : KQw z s_3) => ?_)
  refine pk_ite ?_ ?_
  · exact pk_some h_4
  · refine pk_b1 (QQ_X12_lay h_4) (fun s_5 (h_6 : KQw z s_5) => ?_)
    exact pk_some h_6
theorem QQ_X12_sumUp_29 {z : mG} {s : mG} (h : KQw z s) : pk (F_X12_sumUp_29 s) (se (fun τ => KQw z τ) (fun τ => KQw z τ.2)) := by
  unfold F_X12_sumUp_29
  refine pk_ite ?_ ?_
  · exact (QQ_X12_sumUp_46 h)
  · exact (QQ_X12_sumUp_46 h)
theorem QQ_X12_sumUp_B9 {z : mG} {s : mG} (h : KQw z s) : pk (F_X12_sumUp_B9 s) (se (fun τ => KQw z τ) (fun τ => KQw z τ.2)) := by
  unfold F_X12_sumUp_B9
  refine pk_ite ?_ ?_
  · exact (QQ_X12_sumUp_29 h)
  · refine pk_ite ?_ ?_
    · exact (QQ_X12_sumUp_29 h)
    · exact pk_some h
theorem QQ_X12_sumUp_L9 {z : mG} {s : mG} (h : KQw z s) : pk (F_X12_sumUp_L9 s) (fun τ => KQw z τ.2) := by
  unfold F_X12_sumUp_L9
  refine pk_whl (fun v => KQw z v) h (fun v hv => ?_)
  exact QQ_X12_sumUp_B9 hv
theorem QQ_X12_sumUp {z : mG} {s : mG} (h : KQw z s) : pk (F_X12_sumUp s) (fun τ => KQw z τ.2) := by
  unfold F_X12_sumUp
  refine pk_b2 (QQ_X12_product h) (fun _ s_1 (h_2 : KQw z s_1) => ?_)
  refine pk_ite ?_ ?_
  · exact pk_some h_2
  · exact (QQ_X12_sumUp_L9 h_2)
theorem QQ_X12_every_B9 {z : mG} {rec : mG → Option (Int32 × mG)} {s : mG} (hrec : ∀ (r : mG), KQw z r → pk (rec r) (fun τ => KQw z τ.2)) (h : KQw z s) : pk (F_X12_every_B9 rec s) (se (fun τ => KQw z τ) (fun τ => KQw z τ.2)) := by
  unfold F_X12_every_B9
  refine pk_ite ?_ ?_
  · refine pk_b1 (QQ_X12_next0 h) (fun s_1 (h_2 : KQw z s_1) => ?_)
    refine pk_b2 (hrec _ h_2) (fun _ s_3 (h_4 : KQw z s_3) => ?_)
    refine pk_ite ?_ ?_
    · exact pk_some h_4
    · refine pk_b1 (QQ_X12_lay h_4) (fun s_5 (h_6 : KQw z s_5) => ?_)
      exact pk_some h_6
  · exact pk_some h
theorem QQ_X12_every_L9 {z : mG} {rec : mG → Option (Int32 × mG)} {s : mG} (hrec : ∀ (r : mG), KQw z r → pk (rec r) (fun τ => KQw z τ.2)) (h : KQw z s) : pk (F_X12_every_L9 rec s) (fun τ => KQw z τ.2) := by
  unfold F_X12_every_L9
  refine pk_whl (fun v => KQw z v) h (fun v hv => ?_)
  exact QQ_X12_every_B9 hrec hv
theorem QQ_X12_every {z : mG} {rec : mG → Option (Int32 × mG)} {s : mG} (hrec : ∀ (r : mG), KQw z r → pk (rec r) (fun τ => KQw z τ.2)) (h : KQw z s) : pk (F_X12_every rec s) (fun τ => KQw z τ.2) := by
  unfold F_X12_every
  refine pk_b2 (hrec _ h) (fun _ s_1 (h_2 : KQw z s_1) => ?_)
  refine pk_ite ?_ ?_
  · exact pk_some h_2
  · exact (QQ_X12_every_L9 hrec h_2)
theorem QQ_X12_any_B9 {z : mG} {rec : mG → Option (Int32 × mG)} {s : mG} (hrec : ∀ (r : mG), KQw z r → pk (rec r) (fun τ => KQw z τ.2)) (h : KQw z s) : pk (F_X12_any_B9 rec s) (se (fun τ => KQw z τ) (fun τ => KQw z τ.2)) := by
  unfold F_X12_any_B9
  refine pk_ite ?_ ?_
  · refine pk_b1 (QQ_X12_next0 h) (fun s_1 (h_2 : KQw z s_1) => ?_)
    refine pk_b2 (QQ_X12_every hrec h_2) (fun _ s_3 (h_4 : KQw z s_3) => ?_)
    refine pk_ite ?_ ?_
    · exact pk_some h_4
    · refine pk_b1 (QQ_X12_lay h_4) (fun s_5 (h_6 : KQw z s_5) => ?_)
      exact pk_some h_6
  · exact pk_some h
theorem QQ_X12_any_L9 {z : mG} {rec : mG → Option (Int32 × mG)} {s : mG} (hrec : ∀ (r : mG), KQw z r → pk (rec r) (fun τ => KQw z τ.2)) (h : KQw z s) : pk (F_X12_any_L9 rec s) (fun τ => KQw z τ.2) := by
  unfold F_X12_any_L9
  refine pk_whl (fun v => KQw z v) h (fun v hv => ?_)
  exact QQ_X12_any_B9 hrec hv
theorem QQ_X12_any {z : mG} {rec : mG → Option (Int32 × mG)} {s : mG} (hrec : ∀ (r : mG), KQw z r → pk (rec r) (fun τ => KQw z τ.2)) (h : KQw z s) : pk (F_X12_any rec s) (fun τ => KQw z τ.2) := by
  unfold F_X12_any
  refine pk_b2 (QQ_X12_every hrec h) (fun _ s_1 (h_2 : KQw z s_1) => ?_)
  refine pk_ite ?_ ?_
  · exact pk_some h_2
  · exact (QQ_X12_any_L9 hrec h_2)
theorem QQ_X12_oneTest_23 {z : mG} {rec : mG → Option (Int32 × mG)} {s : mG} (hrec : ∀ (r : mG), KQw z r → pk (rec r) (fun τ => KQw z τ.2)) (h : KQw z s) : pk (F_X12_oneTest_23 rec s) (fun τ => KQw z τ.2) := by
  unfold F_X12_oneTest_23
  exact pk_some h
theorem QQ_X12_oneTest_78 {z : mG} {rec : mG → Option (Int32 × mG)} {s : mG} (hrec : ∀ (r : mG), KQw z r → pk (rec r) (fun τ => KQw z τ.2)) (h : KQw z s) : pk (F_X12_oneTest_78 rec s) (fun τ => KQw z τ.2) := by
  unfold F_X12_oneTest_78
  exact pk_some h
theorem QQ_X12_oneTest_147 {z : mG} {rec : mG → Option (Int32 × mG)} {y0 : Int32} {s : mG} (hrec : ∀ (r : mG), KQw z r → pk (rec r) (fun τ => KQw z τ.2)) (h : KQw z s) : pk (F_X12_oneTest_147 rec y0 s) (fun τ => KQw z τ.2) := by
  unfold F_X12_oneTest_147
  refine pk_ite ?_ ?_
  · refine pk_b2 (QQ_X12_bad h) (fun _ s_1 (h_2 : KQw z s_1) => ?_)
    refine pk_pp ?_
    exact pk_some h_2
  · refine pk_b1 (QQ_X12_next0 h) (fun s_3 (h_4 : KQw z s_3) => ?_)
    refine pk_b2 (QQ_X12_sumUp h_4) (fun _ s_5 (h_6 : KQw z s_5) => ?_)
    refine pk_ite ?_ ?_
    · exact pk_some h_6
    · refine pk_b1 (QQ_X12_lay h_6) (fun s_7 (h_8 : KQw z s_7) => ?_)
      exact pk_some h_8
theorem QQ_X12_oneTest {z : mG} {rec : mG → Option (Int32 × mG)} {s : mG} (hrec : ∀ (r : mG), KQw z r → pk (rec r) (fun τ => KQw z τ.2)) (h : KQw z s) : pk (F_X12_oneTest rec s) (fun τ => KQw z τ.2) := by
  unfold F_X12_oneTest
  refine pk_ite ?_ ?_
  · refine pk_b2 (QQ_X12_opens h) (fun _ s_1 (h_2 : KQw z s_1) => ?_)
    refine pk_ite ?_ ?_
    · exact (QQ_X12_oneTest_23 hrec h_2)
    · refine pk_b2 (hrec _ h_2) (fun _ s_3 (h_4 : KQw z s_3) => ?_)
      refine pk_ite ?_ ?_
      · exact (QQ_X12_oneTest_23 hrec h_4)
      · extract_lets +onlyGivenNames s_5
        have h_6 : KQw z s_5 := KQw_mu h_4 (Or.inr (by decide))
        clear_value s_5
        refine pk_b1 (QQ_X12_lay h_6) (fun s_7 (h_8 : KQw z s_7) => ?_)
        exact pk_some h_8
  · refine pk_ite ?_ ?_
    · refine pk_b2 (QQ_X12_opens h) (fun _ s_9 (h_10 : KQw z s_9) => ?_)
      refine pk_ite ?_ ?_
      · exact (QQ_X12_oneTest_78 hrec h_10)
      · refine pk_b2 (QQ_X12_any hrec h_10) (fun _ s_11 (h_12 : KQw z s_11) => ?_)
        refine pk_ite ?_ ?_
        · exact (QQ_X12_oneTest_78 hrec h_12)
        · refine pk_b2 (QQ_X12_need h_12) (fun _ s_13 (h_14 : KQw z s_13) => ?_)
          refine pk_ite ?_ ?_
          · exact (QQ_X12_oneTest_78 hrec h_14)
          · extract_lets +onlyGivenNames s_15
            have h_16 : KQw z s_15 := KQw_mu h_14 (Or.inr (by decide))
            clear_value s_15
            exact pk_some h_16
    · refine pk_b2 (QQ_X12_sumUp h) (fun _ s_17 (h_18 : KQw z s_17) => ?_)
      refine pk_ite ?_ ?_
      · exact pk_some h_18
      · refine pk_ite ?_ ?_
        · exact (QQ_X12_oneTest_147 hrec h_18)
        · refine pk_ite ?_ ?_
          · exact (QQ_X12_oneTest_147 hrec h_18)
          · refine pk_ite ?_ ?_
            · exact (QQ_X12_oneTest_147 hrec h_18)
            · exact (QQ_X12_oneTest_147 hrec h_18)
theorem QQ_Q_X12_oneTest {z : mG} : ∀ (n : Nat) (s : mG), KQw z s → pk (Q_X12_oneTest n s) (fun τ => KQw z τ.2)
  | 0, _, _ => pk_none
  | n + 1, _, h => QQ_X12_oneTest (fun s h => QQ_Q_X12_oneTest n s h) h
theorem QQ_R_X12_oneTest {z : mG} {s : mG} (h : KQw z s) : pk (R_X12_oneTest s) (fun τ => KQw z τ.2) := QQ_Q_X12_oneTest 9 s h
theorem QQ_X12_aLine_123 {z : mG} {s : mG} (h : KQw z s) : pk (F_X12_aLine_123 s) (fun τ => KQw z τ.2) := by
  unfold F_X12_aLine_123
  refine pk_nn ?_
  extract_lets +onlyGivenNames s_1
  have h_2 : KQw z s_1 := KQw_mu h (Or.inl (by decide))
  clear_value s_1
  refine pk_b2 (QQ_X12_need h_2) (fun _ s_3 (h_4 : KQw z s_3) => ?_)
  refine pk_pp ?_
  exact pk_some h_4
theorem QQ_X12_aLine {z : mG} {s : mG} (h : KQw z s) : pk (F_X12_aLine s) (fun τ => KQw z τ.2) := by
  unfold F_X12_aLine
  refine pk_b1 pk_top (fun _ _ => ?_)
  refine pk_ite ?_ ?_
  · refine pk_b2 (QQ_X12_bad h) (fun _ s_1 (h_2 : KQw z s_1) => ?_)
    refine pk_pp ?_
    exact pk_some h_2
  · refine pk_ite ?_ ?_
    · refine pk_b2 (QQ_X12_bad h) (fun _ s_3 (h_4 : KQw z s_3) => ?_)
      refine pk_pp ?_
      exact pk_some h_4
    · extract_lets +onlyGivenNames s_5
      have h_6 : KQw z s_5 := KQw_mu h (Or.inr (by decide))
      clear_value s_5
      refine pk_nn ?_
      extract_lets +onlyGivenNames s_7
      have h_8 : KQw z s_7 := KQw_mu h_6 (Or.inl (by decide))
      clear_value s_7
      refine pk_b1 (QQ_X12_next0 h_8) (fun s_9 (h_10 : KQw z s_9) => ?_)
      refine pk_nn ?_
      extract_lets +onlyGivenNames s_11
      have h_12 : KQw z s_11 := KQw_mu h_10 (Or.inl (by decide))
      clear_value s_11
      refine pk_b2 (QQ_X12_sumUp h_12) (fun _ s_13 (h_14 : KQw z s_13) => ?_)
      refine pk_ite ?_ ?_
      · exact pk_some h_14
      · refine pk_nn ?_
        extract_lets +onlyGivenNames s_15
        have h_16 : KQw z s_15 := KQw_mu h_14 (Or.inl (by decide))
        clear_value s_15
        refine pk_ite ?_ ?_
        · refine pk_b1 (QQ_X12_next0 h_16) (fun s_17 (h_18 : KQw z s_17) => ?_)
          refine pk_b2 (QQ_X12_any (fun _ h => QQ_R_X12_oneTest h) h_18) (fun _ s_19 (h_20 : KQw z s_19) => ?_)
          refine pk_ite ?_ ?_
          · exact pk_some h_20
          · exact (QQ_X12_aLine_123 h_20)
        · exact (QQ_X12_aLine_123 h_16)
theorem QQ_X12_readsLaw_49 {z : mG} {x1 : Int32} {s : mG} (h : KQw z s) : pk (F_X12_readsLaw_49 x1 s) (fun τ => KQw z τ.2) := by
  unfold F_X12_readsLaw_49
  refine pk_pp ?_
  exact pk_some h
theorem QQ_X12_readsLaw_42 {z : mG} {x1 : Int32} {y1 : Int32} {y2 : Int32} {s : mG} (h : KQw z s) : pk (F_X12_readsLaw_42 x1 y1 y2 s) (se (fun τ => KQw z τ.2) (fun τ => KQw z τ.2)) := by
  unfold F_X12_readsLaw_42
  extract_lets +onlyGivenNames s_1
  have h_2 : KQw z s_1 := KQw_mu h (Or.inr (by decide))
  clear_value s_1
  exact pk_some h_2
theorem QQ_X12_readsLaw_B12 {z : mG} {x1 : Int32} {s : mG} (h : KQw z s) : pk (F_X12_readsLaw_B12 x1 s) (se (fun τ => KQw z τ.2) (fun τ => KQw z τ.2)) := by
  unfold F_X12_readsLaw_B12
  refine pk_ite ?_ ?_
  · refine pk_b1r ?_
    exact (QQ_X12_readsLaw_49 h)
  · refine pk_ite ?_ ?_
    · refine pk_b1r ?_
      exact (QQ_X12_readsLaw_49 h)
    · refine pk_b2 (QQ_X12_aLine h) (fun _ s_1 (h_2 : KQw z s_1) => ?_)
      refine pk_ite ?_ ?_
      · exact (QQ_X12_readsLaw_42 h_2)
      · exact (QQ_X12_readsLaw_42 h_2)
theorem QQ_X12_readsLaw_L12 {z : mG} {x1 : Int32} {s : mG} (h : KQw z s) : pk (F_X12_readsLaw_L12 x1 s) (fun τ => KQw z τ.2) := by
  unfold F_X12_readsLaw_L12
  refine pk_whl (fun v => KQw z v.2) h (fun v hv => ?_)
  obtain ⟨y0, y1⟩ := v
  exact QQ_X12_readsLaw_B12 hv
theorem QQ_X12_readsLaw {z : mG} {s : mG} (h : KQw z s) : pk (F_X12_readsLaw s) (fun τ => KQw z τ.2) := by
  unfold F_X12_readsLaw
  extract_lets +onlyGivenNames s_1
  have h_2 : KQw z s_1 := KQw_mu h (Or.inr (by decide))
  clear_value s_1
  extract_lets +onlyGivenNames s_3
  have h_4 : KQw z s_3 := KQw_mu h_2 (Or.inr (by decide))
  clear_value s_3
  exact (QQ_X12_readsLaw_L12 h_4)
theorem QQ_X12_number {z : mG} {a1 : Int32} {a2 : Int32} {s : mG} (h : KQw z s) : pk (F_X12_number a1 a2 s) (fun τ => KQw z τ.2) := by
  unfold F_X12_number
  refine pk_ite ?_ ?_
  · refine pk_b1 pk_top (fun _ _ => ?_)
    refine pk_ite ?_ ?_
    · refine pk_b2 (QQ_X12_bad h) (fun _ s_1 (h_2 : KQw z s_1) => ?_)
      refine pk_pp ?_
      exact pk_some h_2
    · extract_lets +onlyGivenNames s_3
      have h_4 : KQw z s_3 := KQw_mu h (Or.inr (by decide))
      clear_value s_3
      refine pk_b1 (QQ_X12_next0 h_4) (fun s_5 (h_6 : KQw z s_5) => ?_)
      exact pk_some h_6
  · refine pk_b2 (QQ_X12_bad h) (fun _ s_7 (h_8 : KQw z s_7) => ?_)
    refine pk_pp ?_
    exact pk_some h_8
theorem QQ_X12_told_18 {z : mG} {s : mG} (h : KQw z s) : pk (F_X12_told_18 s) (fun τ => KQw z τ.2) := by
  unfold F_X12_told_18
  exact pk_some h
theorem QQ_X12_told {z : mG} {a1 : Int32} {a2 : Int32} {a3 : Int32} {a4 : Int32} {s : mG} (h : KQw z s) : pk (F_X12_told a1 a2 a3 a4 s) (fun τ => KQw z τ.2) := by
  unfold F_X12_told
  refine pk_b2 (QQ_X12_need h) (fun _ s_1 (h_2 : KQw z s_1) => ?_)
  refine pk_ite ?_ ?_
  · exact (QQ_X12_told_18 h_2)
  · refine pk_b2 (QQ_X12_number h_2) (fun _ s_3 (h_4 : KQw z s_3) => ?_)
    refine pk_ite ?_ ?_
    · exact (QQ_X12_told_18 h_4)
    · refine pk_nn ?_
      extract_lets +onlyGivenNames s_5
      have h_6 : KQw z s_5 := KQw_mu h_4 (Or.inl (by decide))
      clear_value s_5
      exact pk_some h_6
theorem QQ_X12_aSign_63 {z : mG} {s : mG} (h : KQw z s) : pk (F_X12_aSign_63 s) (fun τ => KQw z τ.2) := by
  unfold F_X12_aSign_63
  exact pk_some h
theorem QQ_X12_aSign {z : mG} {s : mG} (h : KQw z s) : pk (F_X12_aSign s) (fun τ => KQw z τ.2) := by
  unfold F_X12_aSign
  refine pk_b2 (QQ_X12_need h) (fun _ s_1 (h_2 : KQw z s_1) => ?_)
  refine pk_ite ?_ ?_
  · exact (QQ_X12_aSign_63 h_2)
  · refine pk_b2 (QQ_X12_told h_2) (fun _ s_3 (h_4 : KQw z s_3) => ?_)
    refine pk_ite ?_ ?_
    · exact (QQ_X12_aSign_63 h_4)
    · refine pk_b2 (QQ_X12_told h_4) (fun _ s_5 (h_6 : KQw z s_5) => ?_)
      refine pk_ite ?_ ?_
      · exact (QQ_X12_aSign_63 h_6)
      · refine pk_b2 (QQ_X12_need h_6) (fun _ s_7 (h_8 : KQw z s_7) => ?_)
        refine pk_ite ?_ ?_
        · exact (QQ_X12_aSign_63 h_8)
        · exact pk_some h_8
theorem QQ_X12_aShift_90 {z : mG} {s : mG} (h : KQw z s) : pk (F_X12_aShift_90 s) (fun τ => KQw z τ.2) := by
  unfold F_X12_aShift_90
  exact pk_some h
theorem QQ_X12_aShift {z : mG} {s : mG} (h : KQw z s) : pk (F_X12_aShift s) (fun τ => KQw z τ.2) := by
  unfold F_X12_aShift
  refine pk_b2 (QQ_X12_told h) (fun _ s_1 (h_2 : KQw z s_1) => ?_)
  refine pk_ite ?_ ?_
  · exact (QQ_X12_aShift_90 h_2)
  · refine pk_b2 (QQ_X12_told h_2) (fun _ s_3 (h_4 : KQw z s_3) => ?_)
    refine pk_ite ?_ ?_
    · exact (QQ_X12_aShift_90 h_4)
    · refine pk_b2 (QQ_X12_told h_4) (fun _ s_5 (h_6 : KQw z s_5) => ?_)
      refine pk_ite ?_ ?_
      · exact (QQ_X12_aShift_90 h_6)
      · refine pk_b2 (QQ_X12_told h_6) (fun _ s_7 (h_8 : KQw z s_7) => ?_)
        refine pk_ite ?_ ?_
        · exact (QQ_X12_aShift_90 h_8)
        · refine pk_b2 (QQ_X12_need h_8) (fun _ s_9 (h_10 : KQw z s_9) => ?_)
          refine pk_ite ?_ ?_
          · exact (QQ_X12_aShift_90 h_10)
          · exact pk_some h_10
theorem QQ_X12_readsRows_115 {z : mG} {x1 : Int32} {s : mG} (h : KQw z s) : pk (F_X12_readsRows_115 x1 s) (fun τ => KQw z τ.2) := by
  unfold F_X12_readsRows_115
  refine pk_pp ?_
  exact pk_some h
theorem QQ_X12_readsRows_108 {z : mG} {x1 : Int32} {y1 : Int32} {y2 : Int32} {s : mG} (h : KQw z s) : pk (F_X12_readsRows_108 x1 y1 y2 s) (se (fun τ => KQw z τ.2) (fun τ => KQw z τ.2)) := by
  unfold F_X12_readsRows_108
  extract_lets +onlyGivenNames s_1
  have h_2 : KQw z s_1 := KQw_mu h (Or.inr (by decide))
  clear_value s_1
  exact pk_some h_2
theorem QQ_X12_readsRows_93 {z : mG} {y0 : Int32} {s : mG} (h : KQw z s) : pk (F_X12_readsRows_93 y0 s) (se (fun τ => KQw z τ.2) (fun τ => KQw z τ.2)) := by
  unfold F_X12_readsRows_93
  refine pk_ite ?_ ?_
  · exact (QQ_X12_readsRows_108 h)
  · exact (QQ_X12_readsRows_108 h)
theorem QQ_X12_readsRows_65 {z : mG} {y0 : Int32} {y1 : Int32} {s : mG} (h : KQw z s) : pk (F_X12_readsRows_65 y0 y1 s) (se (fun τ => KQw z τ.2) (fun τ => KQw z τ.2)) := by
  unfold F_X12_readsRows_65
  refine pk_ite ?_ ?_
  · refine pk_b2 (QQ_X12_bad h) (fun _ s_1 (h_2 : KQw z s_1) => ?_)
    refine pk_pp ?_
    exact pk_some h_2
  · refine pk_ite ?_ ?_
    · refine pk_b2 (QQ_X12_aSign h) (fun _ s_3 (h_4 : KQw z s_3) => ?_)
      exact (QQ_X12_readsRows_93 h_4)
    · refine pk_b2 (QQ_X12_aShift h) (fun _ s_5 (h_6 : KQw z s_5) => ?_)
      exact (QQ_X12_readsRows_93 h_6)
theorem QQ_X12_readsRows_37 {z : mG} {y0 : Int32} {y1 : Int32} {s : mG} (h : KQw z s) : pk (F_X12_readsRows_37 y0 y1 s) (se (fun τ => KQw z τ.2) (fun τ => KQw z τ.2)) := by
  unfold F_X12_readsRows_37
  refine pk_ite ?_ ?_
  · refine pk_ite ?_ ?_
    · exact (QQ_X12_readsRows_65 h)
    · exact (QQ_X12_readsRows_65 h)
  · refine pk_b2 (QQ_X12_bad h) (fun _ s_1 (h_2 : KQw z s_1) => ?_)
    refine pk_pp ?_
    exact pk_some h_2
theorem QQ_X12_readsRows_B7 {z : mG} {x1 : Int32} {s : mG} (h : KQw z s) : pk (F_X12_readsRows_B7 x1 s) (se (fun τ => KQw z τ.2) (fun τ => KQw z τ.2)) := by
  unfold F_X12_readsRows_B7
  refine pk_ite ?_ ?_
  · refine pk_b1r ?_
    exact (QQ_X12_readsRows_115 h)
  · refine pk_ite ?_ ?_
    · refine pk_b1r ?_
      exact (QQ_X12_readsRows_115 h)
    · refine pk_ite ?_ ?_
      · exact (QQ_X12_readsRows_37 h)
      · exact (QQ_X12_readsRows_37 h)
theorem QQ_X12_readsRows_L7 {z : mG} {x1 : Int32} {s : mG} (h : KQw z s) : pk (F_X12_readsRows_L7 x1 s) (fun τ => KQw z τ.2) := by
  unfold F_X12_readsRows_L7
  refine pk_whl (fun v => KQw z v.2) h (fun v hv => ?_)
  obtain ⟨y0, y1⟩ := v
  exact QQ_X12_readsRows_B7 hv
theorem QQ_X12_readsRows {z : mG} {s : mG} (h : KQw z s) : pk (F_X12_readsRows s) (fun τ => KQw z τ.2) := by
  unfold F_X12_readsRows
  extract_lets +onlyGivenNames s_1
  have h_2 : KQw z s_1 := KQw_mu h (Or.inr (by decide))
  clear_value s_1
  exact (QQ_X12_readsRows_L7 h_2)
theorem QQ_X12_putsLaw_B107 {z : mG} {x1 : Int32} {s : mG} (h : KQw z s) : pk (F_X12_putsLaw_B107 x1 s) (se (fun τ => KQw z τ.2) (fun τ => KQw z τ.2)) := by
  unfold F_X12_putsLaw_B107
  refine pk_ite ?_ ?_
  · exact pk_some h
  · refine pk_nn ?_
    refine pk_nn ?_
    extract_lets +onlyGivenNames s_1
    have h_2 : KQw z s_1 := KQw_mu h (Or.inl (by decide))
    clear_value s_1
    exact pk_some h_2
theorem QQ_X12_putsLaw_L107 {z : mG} {x1 : Int32} {s : mG} (h : KQw z s) : pk (F_X12_putsLaw_L107 x1 s) (fun τ => KQw z τ.2) := by
  unfold F_X12_putsLaw_L107
  refine pk_whl (fun v => KQw z v.2) h (fun v hv => ?_)
  obtain ⟨y0, y1⟩ := v
  exact QQ_X12_putsLaw_B107 hv
theorem QQ_X12_putsLaw_B13 {z : mG} {x1 : Int32} {s : mG} (h : KQw z s) : pk (F_X12_putsLaw_B13 x1 s) (se (fun τ => KQw z τ.2) (fun τ => KQw z τ.2)) := by
  unfold F_X12_putsLaw_B13
  refine pk_ite ?_ ?_
  · refine pk_b1r ?_
    exact (QQ_X12_putsLaw_L107 h)
  · refine pk_nn ?_
    refine pk_nn ?_
    extract_lets +onlyGivenNames s_1
    have h_2 : KQw z s_1 := KQw_mu h (Or.inl (by decide))
    clear_value s_1
    refine pk_nn ?_
    refine pk_nn ?_
    extract_lets +onlyGivenNames s_3
    have h_4 : KQw z s_3 := KQw_mu h_2 (Or.inl (by decide))
    clear_value s_3
    refine pk_nn ?_
    refine pk_nn ?_
    extract_lets +onlyGivenNames s_5
    have h_6 : KQw z s_5 := KQw_mu h_4 (Or.inl (by decide))
    clear_value s_5
    refine pk_nn ?_
    refine pk_nn ?_
    extract_lets +onlyGivenNames s_7
    have h_8 : KQw z s_7 := KQw_mu h_6 (Or.inl (by decide))
    clear_value s_7
    exact pk_some h_8
theorem QQ_X12_putsLaw_L13 {z : mG} {x1 : Int32} {s : mG} (h : KQw z s) : pk (F_X12_putsLaw_L13 x1 s) (fun τ => KQw z τ.2) := by
  unfold F_X12_putsLaw_L13
  refine pk_whl (fun v => KQw z v.2) h (fun v hv => ?_)
  obtain ⟨y0, y1⟩ := v
  exact QQ_X12_putsLaw_B13 hv
theorem QQ_X12_putsLaw {z : mG} {s : mG} (h : KQw z s) : pk (F_X12_putsLaw s) (fun τ => KQw z τ.2) := by
  unfold F_X12_putsLaw
  extract_lets +onlyGivenNames s_1
  have h_2 : KQw z s_1 := KQw_mu h (Or.inl (by decide))
  clear_value s_1
  exact (QQ_X12_putsLaw_L13 h_2)
theorem QQ_X12_putsSigns_B47 {z : mG} {x1 : Int32} {s : mG} (h : KQw z s) : pk (F_X12_putsSigns_B47 x1 s) (se (fun τ => KQw z τ.2) (fun τ => KQw z τ.2)) := by
  unfold F_X12_putsSigns_B47
  refine pk_ite ?_ ?_
  · refine pk_b1 (QQ_X12_forgets h) (fun s_1 (h_2 : KQw z s_1) => ?_)
    exact pk_some h_2
  · refine pk_nn ?_
    extract_lets +onlyGivenNames s_3
    have h_4 : KQw z s_3 := KQw_mu h (Or.inl (by decide))
    clear_value s_3
    exact pk_some h_4
theorem QQ_X12_putsSigns_L47 {z : mG} {x1 : Int32} {s : mG} (h : KQw z s) : pk (F_X12_putsSigns_L47 x1 s) (fun τ => KQw z τ.2) := by
  unfold F_X12_putsSigns_L47
  refine pk_whl (fun v => KQw z v.2) h (fun v hv => ?_)
  obtain ⟨y0, y1⟩ := v
  exact QQ_X12_putsSigns_B47 hv
theorem QQ_X12_putsSigns_B13 {z : mG} {x1 : Int32} {s : mG} (h : KQw z s) : pk (F_X12_putsSigns_B13 x1 s) (se (fun τ => KQw z τ.2) (fun τ => KQw z τ.2)) := by
  unfold F_X12_putsSigns_B13
  refine pk_ite ?_ ?_
  · refine pk_b1r ?_
    exact (QQ_X12_putsSigns_L47 h)
  · refine pk_nn ?_
    refine pk_nn ?_
    extract_lets +onlyGivenNames s_1
    have h_2 : KQw z s_1 := KQw_mu h (Or.inl (by decide))
    clear_value s_1
    exact pk_some h_2
theorem QQ_X12_putsSigns_L13 {z : mG} {x1 : Int32} {s : mG} (h : KQw z s) : pk (F_X12_putsSigns_L13 x1 s) (fun τ => KQw z τ.2) := by
  unfold F_X12_putsSigns_L13
  refine pk_whl (fun v => KQw z v.2) h (fun v hv => ?_)
  obtain ⟨y0, y1⟩ := v
  exact QQ_X12_putsSigns_B13 hv
theorem QQ_X12_putsSigns {z : mG} {s : mG} (h : KQw z s) : pk (F_X12_putsSigns s) (fun τ => KQw z τ.2) := by
  unfold F_X12_putsSigns
  extract_lets +onlyGivenNames s_1
  have h_2 : KQw z s_1 := KQw_mu h (Or.inl (by decide))
  clear_value s_1
  exact (QQ_X12_putsSigns_L13 h_2)
theorem QQ_X12_putsShifts_B13 {z : mG} {x1 : Int32} {s : mG} (h : KQw z s) : pk (F_X12_putsShifts_B13 x1 s) (se (fun τ => KQw z τ.2) (fun τ => KQw z τ.2)) := by
  unfold F_X12_putsShifts_B13
  refine pk_ite ?_ ?_
  · refine pk_b1 (QQ_X12_forgets h) (fun s_1 (h_2 : KQw z s_1) => ?_)
    exact pk_some h_2
  · refine pk_nn ?_
    refine pk_nn ?_
    extract_lets +onlyGivenNames s_3
    have h_4 : KQw z s_3 := KQw_mu h (Or.inl (by decide))
    clear_value s_3
    exact pk_some h_4
theorem QQ_X12_putsShifts_L13 {z : mG} {x1 : Int32} {s : mG} (h : KQw z s) : pk (F_X12_putsShifts_L13 x1 s) (fun τ => KQw z τ.2) := by
  unfold F_X12_putsShifts_L13
  refine pk_whl (fun v => KQw z v.2) h (fun v hv => ?_)
  obtain ⟨y0, y1⟩ := v
  exact QQ_X12_putsShifts_B13 hv
theorem QQ_X12_putsShifts {z : mG} {s : mG} (h : KQw z s) : pk (F_X12_putsShifts s) (fun τ => KQw z τ.2) := by
  unfold F_X12_putsShifts
  extract_lets +onlyGivenNames s_1
  have h_2 : KQw z s_1 := KQw_mu h (Or.inl (by decide))
  clear_value s_1
  exact (QQ_X12_putsShifts_L13 h_2)
theorem QQ_X12_comesTo_180 {z : mG} {x1 : Int32} {x3 : Int32} {x4 : Int32} {x5 : Int32} {s : mG} (h : KQw z s) : pk (F_X12_comesTo_180 x1 x3 x4 x5 s) (se (fun τ => KQw z τ.2.2.2.2) (fun τ => KQw z τ.2)) := by
  unfold F_X12_comesTo_180
  exact pk_some h
theorem QQ_X12_comesTo_86 {z : mG} {x1 : Int32} {x3 : Int32} {x4 : Int32} {x5 : Int32} {y1 : Int32} {y2 : Int32} {s : mG} (h : KQw z s) : pk (F_X12_comesTo_86 x1 x3 x4 x5 y1 y2 s) (se (fun τ => KQw z τ.2.2.2.2) (fun τ => KQw z τ.2)) := by
  unfold F_X12_comesTo_86
  refine pk_nn ?_
  extract_lets +onlyGivenNames s_1
  have h_2 : KQw z s_1 := KQw_mu h (Or.inl (by decide))
  clear_value s_1
  exact (QQ_X12_comesTo_180 h_2)
theorem QQ_X12_comesTo_B6 {z : mG} {x1 : Int32} {x3 : Int32} {x4 : Int32} {x5 : Int32} {s : mG} (h : KQw z s) : pk (F_X12_comesTo_B6 x1 x3 x4 x5 s) (se (fun τ => KQw z τ.2.2.2.2) (fun τ => KQw z τ.2)) := by
  unfold F_X12_comesTo_B6
  refine pk_ite ?_ ?_
  · exact pk_some h
  · refine pk_nn ?_
    extract_lets +onlyGivenNames v_1
    clear_value v_1
    refine pk_nn ?_
    extract_lets +onlyGivenNames v_2
    clear_value v_2
    refine pk_ite ?_ ?_
    · refine pk_ite ?_ ?_
      · refine pk_nn ?_
        refine pk_nn ?_
        refine pk_nn ?_
        extract_lets +onlyGivenNames s_3
        have h_4 : KQw z s_3 := KQw_mu h (Or.inl (by decide))
        clear_value s_3
        exact (QQ_X12_comesTo_180 h_4)
      · refine pk_ite ?_ ?_
        · refine pk_nn ?_
          refine pk_nn ?_
          extract_lets +onlyGivenNames s_5
          have h_6 : KQw z s_5 := KQw_mu h (Or.inl (by decide))
          clear_value s_5
          exact (QQ_X12_comesTo_180 h_6)
        · refine pk_nn ?_
          refine pk_nn ?_
          refine pk_b1 pk_top (fun _ _ => ?_)
          refine pk_nn ?_
          extract_lets +onlyGivenNames s_7
          have h_8 : KQw z s_7 := KQw_mu h (Or.inl (by decide))
          clear_value s_7
          exact (QQ_X12_comesTo_180 h_8)
    · refine pk_ite ?_ ?_
      · exact (QQ_X12_comesTo_86 h)
      · refine pk_nn ?_
        exact (QQ_X12_comesTo_86 h)
theorem QQ_X12_comesTo_L6 {z : mG} {x1 : Int32} {x3 : Int32} {x4 : Int32} {x5 : Int32} {s : mG} (h : KQw z s) : pk (F_X12_comesTo_L6 x1 x3 x4 x5 s) (fun τ => KQw z τ.2) := by
  unfold F_X12_comesTo_L6
  refine pk_whl (fun v => KQw z v.2.2.2.2) h (fun v hv => ?_)
  obtain ⟨y0, y1, y2, y3, y4⟩ := v
  exact QQ_X12_comesTo_B6 hv
theorem QQ_X12_comesTo {z : mG} {a1 : Int32} {a2 : Int32} {a3 : Int32} {s : mG} (h : KQw z s) : pk (F_X12_comesTo a1 a2 a3 s) (fun τ => KQw z τ.2) := by
  unfold F_X12_comesTo
  exact (QQ_X12_comesTo_L6 h)
theorem QQ_X12_isSo_52 {z : mG} {s : mG} (h : KQw z s) : pk (F_X12_isSo_52 s) (fun τ => KQw z τ.2) := by
  unfold F_X12_isSo_52
  exact pk_some h
theorem QQ_X12_isSo {z : mG} {a1 : Int32} {s : mG} (h : KQw z s) : pk (F_X12_isSo a1 s) (fun τ => KQw z τ.2) := by
  unfold F_X12_isSo
  refine pk_nn ?_
  refine pk_nn ?_
  refine pk_ite ?_ ?_
  · exact (QQ_X12_isSo_52 h)
  · refine pk_nn ?_
    refine pk_nn ?_
    refine pk_b2 (QQ_X12_comesTo h) (fun _ s_1 (h_2 : KQw z s_1) => ?_)
    refine pk_ite ?_ ?_
    · exact (QQ_X12_isSo_52 h_2)
    · exact pk_some h_2
theorem QQ_X12_saysIn_187 {z : mG} {x1 : Int32} {x2 : Int32} {x6 : Int32} {s : mG} (h : KQw z s) : pk (F_X12_saysIn_187 x1 x2 x6 s) (se (fun τ => KQw z τ.2.2.2) (fun τ => KQw z τ.2)) := by
  unfold F_X12_saysIn_187
  exact pk_some h
theorem QQ_X12_saysIn_B113 {z : mG} {x1 : Int32} {x2 : Int32} {x6 : Int32} {s : mG} (h : KQw z s) : pk (F_X12_saysIn_B113 x1 x2 x6 s) (se (fun τ => KQw z τ.2.2.2) (fun τ => KQw z τ.2)) := by
  unfold F_X12_saysIn_B113
  refine pk_ite ?_ ?_
  · refine pk_b1 pk_top (fun _ _ => ?_)
    exact pk_some h
  · refine pk_nn ?_
    refine pk_ite ?_ ?_
    · refine pk_b2 (QQ_X12_isSo h) (fun _ s_1 (h_2 : KQw z s_1) => ?_)
      refine pk_ite ?_ ?_
      · exact (QQ_X12_saysIn_187 h_2)
      · refine pk_nn ?_
        refine pk_nn ?_
        refine pk_b2 (QQ_X12_comesTo h_2) (fun _ s_3 (h_4 : KQw z s_3) => ?_)
        refine pk_b1 pk_top (fun _ _ => ?_)
        refine pk_b1 pk_top (fun _ _ => ?_)
        exact pk_some h_4
    · exact (QQ_X12_saysIn_187 h)
theorem QQ_X12_saysIn_L113 {z : mG} {x1 : Int32} {x2 : Int32} {x6 : Int32} {s : mG} (h : KQw z s) : pk (F_X12_saysIn_L113 x1 x2 x6 s) (fun τ => KQw z τ.2) := by
  unfold F_X12_saysIn_L113
  refine pk_whl (fun v => KQw z v.2.2.2) h (fun v hv => ?_)
  obtain ⟨y0, y1, y2, y3⟩ := v
  exact QQ_X12_saysIn_B113 hv
theorem QQ_X12_saysIn_100 {z : mG} {x1 : Int32} {x2 : Int32} {x5 : Int32} {y1 : Int32} {y2 : Int32} {s : mG} (h : KQw z s) : pk (F_X12_saysIn_100 x1 x2 x5 y1 y2 s) (fun τ => KQw z τ.2) := by
  unfold F_X12_saysIn_100
  refine pk_nn ?_
  extract_lets +onlyGivenNames s_1
  have h_2 : KQw z s_1 := KQw_mu h (Or.inl (by decide))
  clear_value s_1
  extract_lets +onlyGivenNames s_3
  have h_4 : KQw z s_3 := KQw_mu h_2 (Or.inl (by decide))
  clear_value s_3
  exact (QQ_X12_saysIn_L113 h_4)
theorem QQ_X12_saysIn {z : mG} {a1 : Int32} {a2 : Int32} {a3 : Int32} {a4 : Int32} {a5 : Int32} {s : mG} (h : KQw z s) : pk (F_X12_saysIn a1 a2 a3 a4 a5 s) (fun τ => KQw z τ.2) := by
  unfold F_X12_saysIn
  extract_lets +onlyGivenNames s_1
  have h_2 : KQw z s_1 := KQw_mu h (Or.inl (by decide))
  clear_value s_1
  refine pk_nn ?_
  extract_lets +onlyGivenNames s_3
  have h_4 : KQw z s_3 := KQw_mu h_2 (Or.inl (by decide))
  clear_value s_3
  refine pk_nn ?_
  extract_lets +onlyGivenNames s_5
  have h_6 : KQw z s_5 := KQw_mu h_4 (Or.inl (by decide))
  clear_value s_5
  extract_lets +onlyGivenNames s_7
  have h_8 : KQw z s_7 := KQw_mu h_6 (Or.inl (by decide))
  clear_value s_7
  extract_lets +onlyGivenNames s_9
  have h_10 : KQw z s_9 := KQw_mu h_8 (Or.inl (by decide))
  clear_value s_9
  extract_lets +onlyGivenNames s_11
  have h_12 : KQw z s_11 := KQw_mu h_10 (Or.inl (by decide))
  clear_value s_11
  extract_lets +onlyGivenNames s_13
  have h_14 : KQw z s_13 := KQw_mu h_12 (Or.inl (by decide))
  clear_value s_13
  refine pk_b1 pk_top (fun _ _ => ?_)
  refine pk_ite ?_ ?_
  · exact (QQ_X12_saysIn_100 h_14)
  · exact (QQ_X12_saysIn_100 h_14)
theorem QQ_X12_saysNow {z : mG} {a1 : Int32} {a2 : Int32} {s : mG} (h : KQw z s) : pk (F_X12_saysNow a1 a2 s) (fun τ => KQw z τ.2) := by
  unfold F_X12_saysNow
  refine pk_nn ?_
  refine pk_b2 (QQ_X12_saysIn h) (fun _ s_1 (h_2 : KQw z s_1) => ?_)
  exact pk_some h_2
theorem QQ_X12_keeps_B51 {z : mG} {x1 : Int32} {s : mG} (h : KQw z s) : pk (F_X12_keeps_B51 x1 s) (se (fun τ => KQw z τ.2) (fun τ => KQw z τ)) := by
  unfold F_X12_keeps_B51
  refine pk_ite ?_ ?_
  · extract_lets +onlyGivenNames s_1
    have h_2 : KQw z s_1 := KQw_mu h (Or.inr (by decide))
    clear_value s_1
    exact pk_some h_2
  · refine pk_nn ?_
    refine pk_nn ?_
    extract_lets +onlyGivenNames s_3
    have h_4 : KQw z s_3 := KQw_mu h (Or.inl (by decide))
    clear_value s_3
    exact pk_some h_4
theorem QQ_X12_keeps_L51 {z : mG} {x1 : Int32} {s : mG} (h : KQw z s) : pk (F_X12_keeps_L51 x1 s) (fun τ => KQw z τ) := by
  unfold F_X12_keeps_L51
  refine pk_whl (fun v => KQw z v.2) h (fun v hv => ?_)
  obtain ⟨y0, y1⟩ := v
  exact QQ_X12_keeps_B51 hv
theorem QQ_X12_keeps_49 {z : mG} {s : mG} (h : KQw z s) : pk (F_X12_keeps_49 s) (fun τ => KQw z τ) := by
  unfold F_X12_keeps_49
  exact (QQ_X12_keeps_L51 h)
theorem QQ_X12_keeps_B11 {z : mG} {x1 : Int32} {s : mG} (h : KQw z s) : pk (F_X12_keeps_B11 x1 s) (se (fun τ => KQw z τ.2) (fun τ => KQw z τ)) := by
  unfold F_X12_keeps_B11
  refine pk_ite ?_ ?_
  · extract_lets +onlyGivenNames s_1
    have h_2 : KQw z s_1 := KQw_mu h (Or.inr (by decide))
    clear_value s_1
    refine pk_b1r ?_
    exact (QQ_X12_keeps_49 h_2)
  · refine pk_nn ?_
    refine pk_nn ?_
    extract_lets +onlyGivenNames s_3
    have h_4 : KQw z s_3 := KQw_mu h (Or.inl (by decide))
    clear_value s_3
    exact pk_some h_4
theorem QQ_X12_keeps_L11 {z : mG} {x1 : Int32} {s : mG} (h : KQw z s) : pk (F_X12_keeps_L11 x1 s) (fun τ => KQw z τ) := by
  unfold F_X12_keeps_L11
  refine pk_whl (fun v => KQw z v.2) h (fun v hv => ?_)
  obtain ⟨y0, y1⟩ := v
  exact QQ_X12_keeps_B11 hv
theorem QQ_X12_keeps {z : mG} {s : mG} (h : KQw z s) : pk (F_X12_keeps s) (fun τ => KQw z τ) := by
  unfold F_X12_keeps
  refine pk_ite ?_ ?_
  · exact (QQ_X12_keeps_L11 h)
  · exact (QQ_X12_keeps_49 h)
theorem QQ_X12_undo_B21 {z : mG} {x1 : Int32} {s : mG} (h : KQw z s) : pk (F_X12_undo_B21 x1 s) (se (fun τ => KQw z τ.2) (fun τ => KQw z τ.2)) := by
  unfold F_X12_undo_B21
  refine pk_ite ?_ ?_
  · exact pk_some h
  · refine pk_nn ?_
    refine pk_nn ?_
    extract_lets +onlyGivenNames s_1
    have h_2 : KQw z s_1 := KQw_mu h (Or.inl (by decide))
    clear_value s_1
    exact pk_some h_2
theorem QQ_X12_undo_L21 {z : mG} {x1 : Int32} {s : mG} (h : KQw z s) : pk (F_X12_undo_L21 x1 s) (fun τ => KQw z τ.2) := by
  unfold F_X12_undo_L21
  refine pk_whl (fun v => KQw z v.2) h (fun v hv => ?_)
  obtain ⟨y0, y1⟩ := v
  exact QQ_X12_undo_B21 hv
theorem QQ_X12_undo {z : mG} {s : mG} (h : KQw z s) : pk (F_X12_undo s) (fun τ => KQw z τ.2) := by
  unfold F_X12_undo
  refine pk_ite ?_ ?_
  · exact pk_some h
  · extract_lets +onlyGivenNames s_1
    have h_2 : KQw z s_1 := KQw_mu h (Or.inr (by decide))
    clear_value s_1
    exact (QQ_X12_undo_L21 h_2)
theorem QQ_X12_notes {z : mG} {a1 : Int32} {a2 : Int32} {a3 : Int32} {a4 : Int32} {s : mG} (h : KQw z s) : pk (F_X12_notes a1 a2 a3 a4 s) (fun τ => KQw z τ) := by
  unfold F_X12_notes
  refine pk_ite ?_ ?_
  · exact pk_some h
  · extract_lets +onlyGivenNames v_1
    clear_value v_1
    refine pk_nn ?_
    extract_lets +onlyGivenNames s_2
    have h_3 : KQw z s_2 := KQw_mu h (Or.inl (by decide))
    clear_value s_2
    refine pk_nn ?_
    extract_lets +onlyGivenNames s_4
    have h_5 : KQw z s_4 := KQw_mu h_3 (Or.inl (by decide))
    clear_value s_4
    refine pk_nn ?_
    extract_lets +onlyGivenNames s_6
    have h_7 : KQw z s_6 := KQw_mu h_5 (Or.inl (by decide))
    clear_value s_6
    refine pk_nn ?_
    extract_lets +onlyGivenNames s_8
    have h_9 : KQw z s_8 := KQw_mu h_7 (Or.inl (by decide))
    clear_value s_8
    refine pk_nn ?_
    extract_lets +onlyGivenNames s_10
    have h_11 : KQw z s_10 := KQw_mu h_9 (Or.inl (by decide))
    clear_value s_10
    extract_lets +onlyGivenNames s_12
    have h_13 : KQw z s_12 := KQw_mu h_11 (Or.inl (by decide))
    clear_value s_12
    exact pk_some h_13
theorem QQ_X12_hangsOn_62 {z : mG} {x1 : Int32} {s : mG} (h : KQw z s) : pk (F_X12_hangsOn_62 x1 s) (fun τ => KQw z τ.2) := by
  unfold F_X12_hangsOn_62
  refine pk_b1 pk_top (fun _ _ => ?_)
  refine pk_ite ?_ ?_
  · exact pk_some h
  · exact pk_some h
theorem QQ_X12_hangsOn_29 {z : mG} {x1 : Int32} {y0 : Int32} {s : mG} (h : KQw z s) : pk (F_X12_hangsOn_29 x1 y0 s) (fun τ => KQw z τ.2) := by
  unfold F_X12_hangsOn_29
  refine pk_nn ?_
  extract_lets +onlyGivenNames v_1
  clear_value v_1
  refine pk_ite ?_ ?_
  · exact (QQ_X12_hangsOn_62 h)
  · refine pk_b1 pk_top (fun _ _ => ?_)
    refine pk_ite ?_ ?_
    · exact pk_some h
    · exact (QQ_X12_hangsOn_62 h)
theorem QQ_X12_hangsOn {z : mG} {a1 : Int32} {a2 : Int32} {a3 : Int32} {s : mG} (h : KQw z s) : pk (F_X12_hangsOn a1 a2 a3 s) (fun τ => KQw z τ.2) := by
  unfold F_X12_hangsOn
  refine pk_b2 (QQ_X12_draw h) (fun _ s_1 (h_2 : KQw z s_1) => ?_)
  refine pk_ite ?_ ?_
  · refine pk_b2 (QQ_X12_draw h_2) (fun _ s_3 (h_4 : KQw z s_3) => ?_)
    refine pk_ite ?_ ?_
    · exact (QQ_X12_hangsOn_29 h_4)
    · exact (QQ_X12_hangsOn_29 h_4)
  · exact pk_some h_2
theorem QQ_X12_isMoved_147 {z : mG} {x1 : Int32} {x7 : Int32} {y1 : Int32} {s : mG} (h : KQw z s) : pk (F_X12_isMoved_147 x1 x7 y1 s) (fun τ => KQw z τ.2) := by
  unfold F_X12_isMoved_147
  refine pk_b1 pk_top (fun _ _ => ?_)
  refine pk_b1 (QQ_X12_notes h) (fun s_1 (h_2 : KQw z s_1) => ?_)
  exact pk_some h_2
theorem QQ_X12_isMoved_136 {z : mG} {x1 : Int32} {x2 : Int32} {x7 : Int32} {y1 : Int32} {y2 : Int32} {s : mG} (h : KQw z s) : pk (F_X12_isMoved_136 x1 x2 x7 y1 y2 s) (fun τ => KQw z τ.2) := by
  unfold F_X12_isMoved_136
  refine pk_nn ?_
  extract_lets +onlyGivenNames s_1
  have h_2 : KQw z s_1 := KQw_mu h (Or.inl (by decide))
  clear_value s_1
  refine pk_ite ?_ ?_
  · exact (QQ_X12_isMoved_147 h_2)
  · exact (QQ_X12_isMoved_147 h_2)
theorem QQ_X12_isMoved_110 {z : mG} {x1 : Int32} {x2 : Int32} {x5 : Int32} {x6 : Int32} {x7 : Int32} {y1 : Int32} {y2 : Int32} {s : mG} (h : KQw z s) : pk (F_X12_isMoved_110 x1 x2 x5 x6 x7 y1 y2 s) (fun τ => KQw z τ.2) := by
  unfold F_X12_isMoved_110
  refine pk_nn ?_
  extract_lets +onlyGivenNames s_1
  have h_2 : KQw z s_1 := KQw_mu h (Or.inl (by decide))
  clear_value s_1
  refine pk_ite ?_ ?_
  · refine pk_b2 (QQ_X12_hangsOn h_2) (fun _ s_3 (h_4 : KQw z s_3) => ?_)
    exact (QQ_X12_isMoved_136 h_4)
  · exact (QQ_X12_isMoved_136 h_2)
theorem QQ_X12_isMoved_92 {z : mG} {x1 : Int32} {x2 : Int32} {x5 : Int32} {x6 : Int32} {y0 : Int32} {s : mG} (h : KQw z s) : pk (F_X12_isMoved_92 x1 x2 x5 x6 y0 s) (fun τ => KQw z τ.2) := by
  unfold F_X12_isMoved_92
  refine pk_ite ?_ ?_
  · exact (QQ_X12_isMoved_110 h)
  · exact (QQ_X12_isMoved_110 h)
theorem QQ_X12_isMoved_30 {z : mG} {x1 : Int32} {x2 : Int32} {y1 : Int32} {s : mG} (h : KQw z s) : pk (F_X12_isMoved_30 x1 x2 y1 s) (fun τ => KQw z τ.2) := by
  unfold F_X12_isMoved_30
  refine pk_b2 (QQ_X12_saysNow h) (fun _ s_1 (h_2 : KQw z s_1) => ?_)
  refine pk_b2 (QQ_X12_saysNow h_2) (fun _ s_3 (h_4 : KQw z s_3) => ?_)
  refine pk_b2 (QQ_X12_saysNow h_4) (fun _ s_5 (h_6 : KQw z s_5) => ?_)
  refine pk_b2 (QQ_X12_saysNow h_6) (fun _ s_7 (h_8 : KQw z s_7) => ?_)
  refine pk_b2 (QQ_X12_draw h_8) (fun _ s_9 (h_10 : KQw z s_9) => ?_)
  refine pk_ite ?_ ?_
  · refine pk_b2 (QQ_X12_draw h_10) (fun _ s_11 (h_12 : KQw z s_11) => ?_)
    refine pk_ite ?_ ?_
    · exact (QQ_X12_isMoved_92 h_12)
    · exact (QQ_X12_isMoved_92 h_12)
  · exact pk_some h_10
theorem QQ_X12_isMoved_17 {z : mG} {x1 : Int32} {y0 : Int32} {s : mG} (h : KQw z s) : pk (F_X12_isMoved_17 x1 y0 s) (fun τ => KQw z τ.2) := by
  unfold F_X12_isMoved_17
  refine pk_ite ?_ ?_
  · exact (QQ_X12_isMoved_30 h)
  · exact (QQ_X12_isMoved_30 h)
theorem QQ_X12_isMoved {z : mG} {a1 : Int32} {s : mG} (h : KQw z s) : pk (F_X12_isMoved a1 s) (fun τ => KQw z τ.2) := by
  unfold F_X12_isMoved
  refine pk_nn ?_
  refine pk_ite ?_ ?_
  · exact (QQ_X12_isMoved_17 h)
  · exact (QQ_X12_isMoved_17 h)
theorem QQ_X12_anHour_65 {z : mG} {x2 : Int32} {y0 : Int32} {y1 : Int32} {s : mG} (h : KQw z s) : pk (F_X12_anHour_65 x2 y0 y1 s) (se (fun τ => KQw z τ.2.2) (fun τ => KQw z τ.2)) := by
  unfold F_X12_anHour_65
  exact pk_some h
theorem QQ_X12_anHour_54 {z : mG} {x1 : Int32} {x2 : Int32} {x3 : Int32} {y1 : Int32} {y2 : Int32} {s : mG} (h : KQw z s) : pk (F_X12_anHour_54 x1 x2 x3 y1 y2 s) (se (fun τ => KQw z τ.2.2) (fun τ => KQw z τ.2)) := by
  unfold F_X12_anHour_54
  refine pk_nn ?_
  extract_lets +onlyGivenNames s_1
  have h_2 : KQw z s_1 := KQw_mu h (Or.inl (by decide))
  clear_value s_1
  refine pk_ite ?_ ?_
  · exact (QQ_X12_anHour_65 h_2)
  · exact (QQ_X12_anHour_65 h_2)
theorem QQ_X12_anHour_B4 {z : mG} {x1 : Int32} {x2 : Int32} {s : mG} (h : KQw z s) : pk (F_X12_anHour_B4 x1 x2 s) (se (fun τ => KQw z τ.2.2) (fun τ => KQw z τ.2)) := by
  unfold F_X12_anHour_B4
  refine pk_ite ?_ ?_
  · extract_lets +onlyGivenNames s_1
    have h_2 : KQw z s_1 := KQw_mu h (Or.inl (by decide))
    clear_value s_1
    exact pk_some h_2
  · refine pk_b2 (QQ_X12_isMoved h) (fun _ s_3 (h_4 : KQw z s_3) => ?_)
    refine pk_ite ?_ ?_
    · refine pk_nn ?_
      refine pk_b1 pk_top (fun _ _ => ?_)
      exact (QQ_X12_anHour_54 h_4)
    · exact (QQ_X12_anHour_54 h_4)
theorem QQ_X12_anHour_L4 {z : mG} {x1 : Int32} {x2 : Int32} {s : mG} (h : KQw z s) : pk (F_X12_anHour_L4 x1 x2 s) (fun τ => KQw z τ.2) := by
  unfold F_X12_anHour_L4
  refine pk_whl (fun v => KQw z v.2.2) h (fun v hv => ?_)
  obtain ⟨y0, y1, y2⟩ := v
  exact QQ_X12_anHour_B4 hv
theorem QQ_X12_anHour {z : mG} {s : mG} (h : KQw z s) : pk (F_X12_anHour s) (fun τ => KQw z τ.2) := by
  unfold F_X12_anHour
  exact (QQ_X12_anHour_L4 h)
theorem QQ_X12_hours_24 {z : mG} {s : mG} (h : KQw z s) : pk (F_X12_hours_24 s) (fun τ => KQw z τ.2) := by
  unfold F_X12_hours_24
  exact pk_some h
theorem QQ_X12_hours_B30 {z : mG} {x1 : Int32} {x2 : Int32} {x3 : Int32} {s : mG} (h : KQw z s) : pk (F_X12_hours_B30 x1 x2 x3 s) (se (fun τ => KQw z τ.2.2.2) (fun τ => KQw z τ.2)) := by
  unfold F_X12_hours_B30
  refine pk_ite ?_ ?_
  · exact pk_some h
  · refine pk_b1 (QQ_X12_keeps h) (fun s_1 (h_2 : KQw z s_1) => ?_)
    refine pk_b2 (QQ_X12_anHour h_2) (fun _ s_3 (h_4 : KQw z s_3) => ?_)
    exact pk_some h_4
theorem QQ_X12_hours_L30 {z : mG} {x1 : Int32} {x2 : Int32} {x3 : Int32} {s : mG} (h : KQw z s) : pk (F_X12_hours_L30 x1 x2 x3 s) (fun τ => KQw z τ.2) := by
  unfold F_X12_hours_L30
  refine pk_whl (fun v => KQw z v.2.2.2) h (fun v hv => ?_)
  obtain ⟨y0, y1, y2, y3⟩ := v
  exact QQ_X12_hours_B30 hv
theorem QQ_X12_hours {z : mG} {a1 : Int32} {s : mG} (h : KQw z s) : pk (F_X12_hours a1 s) (fun τ => KQw z τ.2) := by
  unfold F_X12_hours
  refine pk_b1 pk_top (fun _ _ => ?_)
  refine pk_ite ?_ ?_
  · exact (QQ_X12_hours_24 h)
  · refine pk_ite ?_ ?_
    · exact (QQ_X12_hours_L30 h)
    · exact (QQ_X12_hours_24 h)
theorem QQ_X12_hang_36 {z : mG} {s : mG} (h : KQw z s) : pk (F_X12_hang_36 s) (fun τ => KQw z τ.2) := by
  unfold F_X12_hang_36
  exact pk_some h
theorem QQ_X12_hang {z : mG} {a1 : Int32} {a2 : Int32} {s : mG} (h : KQw z s) : pk (F_X12_hang a1 a2 s) (fun τ => KQw z τ.2) := by
  unfold F_X12_hang
  refine pk_b1 pk_top (fun _ _ => ?_)
  refine pk_ite ?_ ?_
  · exact (QQ_X12_hang_36 h)
  · refine pk_b1 pk_top (fun _ _ => ?_)
    refine pk_ite ?_ ?_
    · exact (QQ_X12_hang_36 h)
    · refine pk_nn ?_
      refine pk_ite ?_ ?_
      · exact (QQ_X12_hang_36 h)
      · refine pk_b1 pk_top (fun _ _ => ?_)
        refine pk_ite ?_ ?_
        · refine pk_b1 (QQ_X12_keeps h) (fun s_1 (h_2 : KQw z s_1) => ?_)
          refine pk_nn ?_
          extract_lets +onlyGivenNames s_3
          have h_4 : KQw z s_3 := KQw_mu h_2 (Or.inl (by decide))
          clear_value s_3
          refine pk_b1 (QQ_X12_notes h_4) (fun s_5 (h_6 : KQw z s_5) => ?_)
          exact pk_some h_6
        · exact (QQ_X12_hang_36 h)
theorem QQ_X12_looks_43 {z : mG} {s : mG} (h : KQw z s) : pk (F_X12_looks_43 s) (fun τ => KQw z τ.2) := by
  unfold F_X12_looks_43
  exact pk_some h
theorem QQ_X12_looks {z : mG} {a1 : Int32} {a2 : Int32} {a3 : Int32} {s : mG} (h : KQw z s) : pk (F_X12_looks a1 a2 a3 s) (fun τ => KQw z τ.2) := by
  unfold F_X12_looks
  refine pk_b1 pk_top (fun _ _ => ?_)
  refine pk_ite ?_ ?_
  · exact (QQ_X12_looks_43 h)
  · refine pk_b1 pk_top (fun _ _ => ?_)
    refine pk_ite ?_ ?_
    · exact (QQ_X12_looks_43 h)
    · refine pk_b1 pk_top (fun _ _ => ?_)
      refine pk_ite ?_ ?_
      · exact (QQ_X12_looks_43 h)
      · refine pk_nn ?_
        refine pk_ite ?_ ?_
        · exact (QQ_X12_looks_43 h)
        · refine pk_b1 (QQ_X12_keeps h) (fun s_1 (h_2 : KQw z s_1) => ?_)
          refine pk_nn ?_
          extract_lets +onlyGivenNames s_3
          have h_4 : KQw z s_3 := KQw_mu h_2 (Or.inl (by decide))
          clear_value s_3
          exact pk_some h_4
theorem QQ_X12_sureOf_70 {z : mG} {x1 : Int32} {x2 : Int64} {x4 : Int32} {s : mG} (h : KQw z s) : pk (F_X12_sureOf_70 x1 x2 x4 s) (se (fun τ => KQw z τ.2.2.2) (fun τ => KQw z τ.2)) := by
  unfold F_X12_sureOf_70
  exact pk_some h
theorem QQ_X12_sureOf_B16 {z : mG} {x1 : Int32} {x2 : Int64} {x4 : Int32} {s : mG} (h : KQw z s) : pk (F_X12_sureOf_B16 x1 x2 x4 s) (se (fun τ => KQw z τ.2.2.2) (fun τ => KQw z τ.2)) := by
  unfold F_X12_sureOf_B16
  refine pk_ite ?_ ?_
  · exact pk_some h
  · refine pk_nn ?_
    refine pk_ite ?_ ?_
    · exact (QQ_X12_sureOf_70 h)
    · refine pk_nn ?_
      refine pk_b1 pk_top (fun _ _ => ?_)
      exact (QQ_X12_sureOf_70 h)
theorem QQ_X12_sureOf_L16 {z : mG} {x1 : Int32} {x2 : Int64} {x4 : Int32} {s : mG} (h : KQw z s) : pk (F_X12_sureOf_L16 x1 x2 x4 s) (fun τ => KQw z τ.2) := by
  unfold F_X12_sureOf_L16
  refine pk_whl (fun v => KQw z v.2.2.2) h (fun v hv => ?_)
  obtain ⟨y0, y1, y2, y3⟩ := v
  exact QQ_X12_sureOf_B16 hv
theorem QQ_X12_sureOf {z : mG} {a1 : Int32} {s : mG} (h : KQw z s) : pk (F_X12_sureOf a1 s) (fun τ => KQw z τ.2) := by
  unfold F_X12_sureOf
  refine pk_b2 (QQ_X12_saysNow h) (fun _ s_1 (h_2 : KQw z s_1) => ?_)
  extract_lets +onlyGivenNames v_3
  clear_value v_3
  exact (QQ_X12_sureOf_L16 h_2)
theorem QQ_X12_next {z : mG} {a1 : Int32} {s : mG} (h : KQw z s) : pk (F_X12_next a1 s) (fun τ => KQw z τ.2) := by
  unfold F_X12_next
  refine pk_b1 pk_top (fun _ _ => ?_)
  refine pk_ite ?_ ?_
  · exact pk_some h
  · refine pk_b2 (QQ_X12_sureOf h) (fun _ s_1 (h_2 : KQw z s_1) => ?_)
    refine pk_b1 pk_top (fun _ _ => ?_)
    refine pk_b1 pk_top (fun _ _ => ?_)
    exact pk_some h_2
theorem QQ_X12_looksAt_98 {z : mG} {x2 : Int32} {x6 : Int32} {s : mG} (h : KQw z s) : pk (F_X12_looksAt_98 x2 x6 s) (fun τ => KQw z τ.2) := by
  unfold F_X12_looksAt_98
  refine pk_ite ?_ ?_
  · exact pk_some h
  · exact pk_some h
theorem QQ_X12_looksAt_70 {z : mG} {x2 : Int32} {x5 : Int32} {x6 : Int32} {x7 : Int32} {y1 : Int64} {y2 : Int32} {y3 : Int32} {s : mG} (h : KQw z s) : pk (F_X12_looksAt_70 x2 x5 x6 x7 y1 y2 y3 s) (se (fun τ => KQw z τ.2.2.2.2.2) (fun τ => KQw z τ.2)) := by
  unfold F_X12_looksAt_70
  refine pk_b1 pk_top (fun _ _ => ?_)
  extract_lets +onlyGivenNames v_1
  clear_value v_1
  refine pk_b1 pk_top (fun _ _ => ?_)
  exact pk_some h
theorem QQ_X12_looksAt_B35 {z : mG} {x2 : Int32} {x3 : Int64} {x5 : Int32} {x6 : Int32} {x7 : Int32} {s : mG} (h : KQw z s) : pk (F_X12_looksAt_B35 x2 x3 x5 x6 x7 s) (se (fun τ => KQw z τ.2.2.2.2.2) (fun τ => KQw z τ.2)) := by
  unfold F_X12_looksAt_B35
  refine pk_ite ?_ ?_
  · refine pk_b1r ?_
    exact (QQ_X12_looksAt_98 h)
  · refine pk_ite ?_ ?_
    · refine pk_b1r ?_
      exact (QQ_X12_looksAt_98 h)
    · refine pk_b1 pk_top (fun _ _ => ?_)
      refine pk_ite ?_ ?_
      · exact (QQ_X12_looksAt_70 h)
      · exact (QQ_X12_looksAt_70 h)
theorem QQ_X12_looksAt_L35 {z : mG} {x2 : Int32} {x3 : Int64} {x5 : Int32} {x6 : Int32} {x7 : Int32} {s : mG} (h : KQw z s) : pk (F_X12_looksAt_L35 x2 x3 x5 x6 x7 s) (fun τ => KQw z τ.2) := by
  unfold F_X12_looksAt_L35
  refine pk_whl (fun v => KQw z v.2.2.2.2.2) h (fun v hv => ?_)
  obtain ⟨y0, y1, y2, y3, y4, y5⟩ := v
  exact QQ_X12_looksAt_B35 hv
theorem QQ_X12_looksAt {z : mG} {a1 : Int32} {a2 : Int32} {s : mG} (h : KQw z s) : pk (F_X12_looksAt a1 a2 s) (fun τ => KQw z τ.2) := by
  unfold F_X12_looksAt
  refine pk_b1 pk_top (fun _ _ => ?_)
  refine pk_ite ?_ ?_
  · exact pk_some h
  · refine pk_b2 (QQ_X12_sureOf h) (fun _ s_1 (h_2 : KQw z s_1) => ?_)
    refine pk_b1 pk_top (fun _ _ => ?_)
    refine pk_b1 pk_top (fun _ _ => ?_)
    exact (QQ_X12_looksAt_L35 h_2)
end
end
/-! 5v1.cells -/
section
noncomputable section
theorem QQ_X12_say_22 {z : mG} {s : mG} (h : KQw z s) : pk (F_X12_say_22 s) (fun τ => KQw z τ.2) := by
  unfold F_X12_say_22
  exact pk_some h
theorem QQ_X12_say {z : mG} {a1 : Int32} {a2 : Int32} {a3 : Int32} {s : mG} (h : KQw z s) : pk (F_X12_say a1 a2 a3 s) (fun τ => KQw z τ.2) := by
  unfold F_X12_say
  refine pk_b1 pk_top (fun _ _ => ?_)
  refine pk_ite ?_ ?_
  · exact (QQ_X12_say_22 h)
  · refine pk_b1 pk_top (fun _ _ => ?_)
    refine pk_ite ?_ ?_
    · exact (QQ_X12_say_22 h)
    · refine pk_b1 pk_top (fun _ _ => ?_)
      refine pk_ite ?_ ?_
      · exact (QQ_X12_say_22 h)
      · refine pk_b2 (QQ_X12_sureOf h) (fun _ s_1 (h_2 : KQw z s_1) => ?_)
        refine pk_ite ?_ ?_
        · exact pk_some h_2
        · exact pk_some h_2
theorem QQ_X12_caller_59 {z : mG} {s : mG} (h : KQw z s) : pk (F_X12_caller_59 s) (fun τ => KQw z τ.2) := by
  unfold F_X12_caller_59
  exact pk_some h
theorem QQ_X12_caller {z : mG} {a1 : Int32} {a2 : Int32} {a3 : Int32} {s : mG} (h : KQw z s) : pk (F_X12_caller a1 a2 a3 s) (fun τ => KQw z τ.2) := by
  unfold F_X12_caller
  refine pk_ite ?_ ?_
  · extract_lets +onlyGivenNames s_1
    have h_2 : KQw z s_1 := KQw_mu h (Or.inl (by decide))
    clear_value s_1
    exact pk_some h_2
  · refine pk_b1 pk_top (fun _ _ => ?_)
    refine pk_ite ?_ ?_
    · exact (QQ_X12_caller_59 h)
    · refine pk_b1 pk_top (fun _ _ => ?_)
      refine pk_ite ?_ ?_
      · exact (QQ_X12_caller_59 h)
      · refine pk_b1 pk_top (fun _ _ => ?_)
        refine pk_ite ?_ ?_
        · exact (QQ_X12_caller_59 h)
        · refine pk_ite ?_ ?_
          · exact (QQ_X12_caller_59 h)
          · extract_lets +onlyGivenNames v_3
            clear_value v_3
            refine pk_nn ?_
            extract_lets +onlyGivenNames s_4
            have h_5 : KQw z s_4 := KQw_mu h (Or.inl (by decide))
            clear_value s_4
            refine pk_nn ?_
            extract_lets +onlyGivenNames s_6
            have h_7 : KQw z s_6 := KQw_mu h_5 (Or.inl (by decide))
            clear_value s_6
            refine pk_nn ?_
            extract_lets +onlyGivenNames s_8
            have h_9 : KQw z s_8 := KQw_mu h_7 (Or.inl (by decide))
            clear_value s_8
            extract_lets +onlyGivenNames s_10
            have h_11 : KQw z s_10 := KQw_mu h_9 (Or.inl (by decide))
            clear_value s_10
            exact pk_some h_11
theorem QQ_X12_said_149 {z : mG} {x1 : Int32} {x2 : Int32} {x4 : Int32} {y0 : Int32} {y1 : Int64} {s : mG} (h : KQw z s) : pk (F_X12_said_149 x1 x2 x4 y0 y1 s) (se (fun τ => KQw z τ.2.2.2.2) (fun τ => KQw z τ.2)) := by
  unfold F_X12_said_149
  extract_lets +onlyGivenNames v_1
  clear_value v_1
  exact pk_some h
theorem QQ_X12_said_108 {z : mG} {x1 : Int32} {x3 : Int32} {x4 : Int32} {x5 : Int32} {x6 : Int32} {x7 : Int64} {y0 : Int32} {y1 : Int32} {s : mG} (h : KQw z s) : pk (F_X12_said_108 x1 x3 x4 x5 x6 x7 y0 y1 s) (se (fun τ => KQw z τ.2.2.2.2) (fun τ => KQw z τ.2)) := by
  unfold F_X12_said_108
  refine pk_ite ?_ ?_
  · refine pk_nn ?_
    exact (QQ_X12_said_149 h)
  · refine pk_nn ?_
    exact (QQ_X12_said_149 h)
theorem QQ_X12_said_79 {z : mG} {x1 : Int32} {x2 : Int32} {x3 : Int32} {x4 : Int32} {x5 : Int32} {y0 : Int32} {s : mG} (h : KQw z s) : pk (F_X12_said_79 x1 x2 x3 x4 x5 y0 s) (se (fun τ => KQw z τ.2.2.2.2) (fun τ => KQw z τ.2)) := by
  unfold F_X12_said_79
  refine pk_nn ?_
  refine pk_b2 (QQ_X12_sureOf h) (fun _ s_1 (h_2 : KQw z s_1) => ?_)
  refine pk_ite ?_ ?_
  · exact (QQ_X12_said_108 h_2)
  · exact (QQ_X12_said_108 h_2)
theorem QQ_X12_said_B18 {z : mG} {x1 : Int32} {x2 : Int32} {x3 : Int32} {x4 : Int32} {s : mG} (h : KQw z s) : pk (F_X12_said_B18 x1 x2 x3 x4 s) (se (fun τ => KQw z τ.2.2.2.2) (fun τ => KQw z τ.2)) := by
  unfold F_X12_said_B18
  refine pk_ite ?_ ?_
  · refine pk_ite ?_ ?_
    · exact pk_some h
    · exact pk_some h
  · extract_lets +onlyGivenNames v_1
    clear_value v_1
    refine pk_nn ?_
    refine pk_nn ?_
    refine pk_nn ?_
    refine pk_b2 (QQ_X12_say h) (fun _ s_2 (h_3 : KQw z s_2) => ?_)
    refine pk_ite ?_ ?_
    · exact (QQ_X12_said_79 h_3)
    · exact (QQ_X12_said_79 h_3)
theorem QQ_X12_said_L18 {z : mG} {x1 : Int32} {x2 : Int32} {x3 : Int32} {x4 : Int32} {s : mG} (h : KQw z s) : pk (F_X12_said_L18 x1 x2 x3 x4 s) (fun τ => KQw z τ.2) := by
  unfold F_X12_said_L18
  refine pk_whl (fun v => KQw z v.2.2.2.2) h (fun v hv => ?_)
  obtain ⟨y0, y1, y2, y3, y4⟩ := v
  exact QQ_X12_said_B18 hv
theorem QQ_X12_said {z : mG} {a1 : Int32} {s : mG} (h : KQw z s) : pk (F_X12_said a1 s) (fun τ => KQw z τ.2) := by
  unfold F_X12_said
  refine pk_b1 pk_top (fun _ _ => ?_)
  refine pk_ite ?_ ?_
  · exact pk_some h
  · exact (QQ_X12_said_L18 h)
theorem QQ_X12_pair_20 {z : mG} {s : mG} (h : KQw z s) : pk (F_X12_pair_20 s) (fun τ => KQw z τ.2) := by
  unfold F_X12_pair_20
  exact pk_some h
theorem QQ_X12_pair_105 {z : mG} {x1 : Int32} {x2 : Int64} {x4 : Int32} {x5 : Int32} {x6 : Int32} {x7 : Int32} {s : mG} (h : KQw z s) : pk (F_X12_pair_105 x1 x2 x4 x5 x6 x7 s) (se (fun τ => KQw z τ.2.2.2.2.2.2) (se (fun τ => KQw z τ.2.2.2.2.2) (fun τ => KQw z τ.2))) := by
  unfold F_X12_pair_105
  exact pk_some h
theorem QQ_X12_pair_B53 {z : mG} {x1 : Int32} {x2 : Int64} {x4 : Int32} {x5 : Int32} {x6 : Int32} {x7 : Int32} {s : mG} (h : KQw z s) : pk (F_X12_pair_B53 x1 x2 x4 x5 x6 x7 s) (se (fun τ => KQw z τ.2.2.2.2.2.2) (se (fun τ => KQw z τ.2.2.2.2.2) (fun τ => KQw z τ.2))) := by
  unfold F_X12_pair_B53
  refine pk_ite ?_ ?_
  · exact pk_some h
  · refine pk_b2 (QQ_X12_sureOf h) (fun _ s_1 (h_2 : KQw z s_1) => ?_)
    refine pk_b2 (QQ_X12_sureOf h_2) (fun _ s_3 (h_4 : KQw z s_3) => ?_)
    extract_lets +onlyGivenNames v_5
    clear_value v_5
    refine pk_ite ?_ ?_
    · exact (QQ_X12_pair_105 h_4)
    · exact (QQ_X12_pair_105 h_4)
theorem QQ_X12_pair_L53 {z : mG} {x1 : Int32} {x2 : Int64} {x4 : Int32} {x5 : Int32} {x6 : Int32} {x7 : Int32} {s : mG} (h : KQw z s) : pk (F_X12_pair_L53 x1 x2 x4 x5 x6 x7 s) (se (fun τ => KQw z τ.2.2.2.2.2) (fun τ => KQw z τ.2)) := by
  unfold F_X12_pair_L53
  refine pk_whl (fun v => KQw z v.2.2.2.2.2.2) h (fun v hv => ?_)
  obtain ⟨y0, y1, y2, y3, y4, y5, y6⟩ := v
  exact QQ_X12_pair_B53 hv
theorem QQ_X12_pair_B35 {z : mG} {x1 : Int32} {x2 : Int64} {x4 : Int32} {x5 : Int32} {x6 : Int32} {s : mG} (h : KQw z s) : pk (F_X12_pair_B35 x1 x2 x4 x5 x6 s) (se (fun τ => KQw z τ.2.2.2.2.2) (fun τ => KQw z τ.2)) := by
  unfold F_X12_pair_B35
  refine pk_ite ?_ ?_
  · refine pk_ite ?_ ?_
    · exact pk_some h
    · refine pk_ite ?_ ?_
      · exact pk_some h
      · exact pk_some h
  · exact (QQ_X12_pair_L53 h)
theorem QQ_X12_pair_L35 {z : mG} {x1 : Int32} {x2 : Int64} {x4 : Int32} {x5 : Int32} {x6 : Int32} {s : mG} (h : KQw z s) : pk (F_X12_pair_L35 x1 x2 x4 x5 x6 s) (fun τ => KQw z τ.2) := by
  unfold F_X12_pair_L35
  refine pk_whl (fun v => KQw z v.2.2.2.2.2) h (fun v hv => ?_)
  obtain ⟨y0, y1, y2, y3, y4, y5⟩ := v
  exact QQ_X12_pair_B35 hv
theorem QQ_X12_pair {z : mG} {a1 : Int32} {s : mG} (h : KQw z s) : pk (F_X12_pair a1 s) (fun τ => KQw z τ.2) := by
  unfold F_X12_pair
  refine pk_b1 pk_top (fun _ _ => ?_)
  refine pk_ite ?_ ?_
  · exact (QQ_X12_pair_20 h)
  · refine pk_ite ?_ ?_
    · exact (QQ_X12_pair_L35 h)
    · exact (QQ_X12_pair_20 h)
theorem QQ_X12_laysChances_116 {z : mG} {x1 : Int32} {x2 : Int64} {x4 : Int32} {y1 : Int32} {y2 : Int64} {y3 : Int64} {s : mG} (h : KQw z s) : pk (F_X12_laysChances_116 x1 x2 x4 y1 y2 y3 s) (se (fun τ => KQw z τ.2.2.2) (se (fun τ => KQw z τ.2) (fun τ => KQw z τ))) := by
  unfold F_X12_laysChances_116
  refine pk_nn ?_
  extract_lets +onlyGivenNames s_1
  have h_2 : KQw z s_1 := h
  clear_value s_1
  exact pk_some h_2
theorem QQ_X12_laysChances_B64 {z : mG} {x1 : Int32} {x2 : Int64} {x4 : Int32} {s : mG} (h : KQw z s) : pk (F_X12_laysChances_B64 x1 x2 x4 s) (se (fun τ => KQw z τ.2.2.2) (se (fun τ => KQw z τ.2) (fun τ => KQw z τ))) := by
  unfold F_X12_laysChances_B64
  refine pk_ite ?_ ?_
  · exact pk_some h
  · refine pk_nn ?_
    refine pk_ite ?_ ?_
    · exact (QQ_X12_laysChances_116 h)
    · refine pk_nn ?_
      exact (QQ_X12_laysChances_116 h)
theorem QQ_X12_laysChances_L64 {z : mG} {x1 : Int32} {x2 : Int64} {x4 : Int32} {s : mG} (h : KQw z s) : pk (F_X12_laysChances_L64 x1 x2 x4 s) (se (fun τ => KQw z τ.2) (fun τ => KQw z τ)) := by
  unfold F_X12_laysChances_L64
  refine pk_whl (fun v => KQw z v.2.2.2) h (fun v hv => ?_)
  obtain ⟨y0, y1, y2, y3⟩ := v
  exact QQ_X12_laysChances_B64 hv
theorem QQ_X12_laysChances_B38 {z : mG} {x1 : Int32} {s : mG} (h : KQw z s) : pk (F_X12_laysChances_B38 x1 s) (se (fun τ => KQw z τ.2) (fun τ => KQw z τ)) := by
  unfold F_X12_laysChances_B38
  refine pk_ite ?_ ?_
  · exact pk_some h
  · refine pk_b2 (QQ_X12_sureOf h) (fun _ s_1 (h_2 : KQw z s_1) => ?_)
    exact (QQ_X12_laysChances_L64 h_2)
theorem QQ_X12_laysChances_L38 {z : mG} {x1 : Int32} {s : mG} (h : KQw z s) : pk (F_X12_laysChances_L38 x1 s) (fun τ => KQw z τ) := by
  unfold F_X12_laysChances_L38
  refine pk_whl (fun v => KQw z v.2) h (fun v hv => ?_)
  obtain ⟨y0, y1⟩ := v
  exact QQ_X12_laysChances_B38 hv
theorem QQ_X12_laysChances_29 {z : mG} {x1 : Int32} {y1 : Int32} {y2 : Int64} {s : mG} (h : KQw z s) : pk (F_X12_laysChances_29 x1 y1 y2 s) (se (fun τ => KQw z τ.2) (fun τ => KQw z τ)) := by
  unfold F_X12_laysChances_29
  refine pk_nn ?_
  extract_lets +onlyGivenNames s_1
  have h_2 : KQw z s_1 := h
  clear_value s_1
  exact pk_some h_2
theorem QQ_X12_laysChances_B2 {z : mG} {x1 : Int32} {s : mG} (h : KQw z s) : pk (F_X12_laysChances_B2 x1 s) (se (fun τ => KQw z τ.2) (fun τ => KQw z τ)) := by
  unfold F_X12_laysChances_B2
  refine pk_ite ?_ ?_
  · refine pk_b1r ?_
    exact (QQ_X12_laysChances_L38 h)
  · refine pk_ite ?_ ?_
    · exact (QQ_X12_laysChances_29 h)
    · exact (QQ_X12_laysChances_29 h)
theorem QQ_X12_laysChances_L2 {z : mG} {x1 : Int32} {s : mG} (h : KQw z s) : pk (F_X12_laysChances_L2 x1 s) (fun τ => KQw z τ) := by
  unfold F_X12_laysChances_L2
  refine pk_whl (fun v => KQw z v.2) h (fun v hv => ?_)
  obtain ⟨y0, y1⟩ := v
  exact QQ_X12_laysChances_B2 hv
theorem QQ_X12_laysChances {z : mG} {s : mG} (h : KQw z s) : pk (F_X12_laysChances s) (fun τ => KQw z τ) := by
  unfold F_X12_laysChances
  exact (QQ_X12_laysChances_L2 h)
theorem QQ_X12_many_98 {z : mG} {x1 : Int32} {x4 : Int32} {x5 : Int32} {s : mG} (h : KQw z s) : pk (F_X12_many_98 x1 x4 x5 s) (se (fun τ => KQw z τ.2.2.2) (fun τ => KQw z τ.2)) := by
  unfold F_X12_many_98
  exact pk_some h
theorem QQ_X12_many_B64 {z : mG} {x1 : Int32} {x4 : Int32} {x5 : Int32} {s : mG} (h : KQw z s) : pk (F_X12_many_B64 x1 x4 x5 s) (se (fun τ => KQw z τ.2.2.2) (fun τ => KQw z τ.2)) := by
  unfold F_X12_many_B64
  refine pk_ite ?_ ?_
  · refine pk_ite ?_ ?_
    · exact pk_some h
    · refine pk_nn ?_
      extract_lets +onlyGivenNames v_1
      clear_value v_1
      exact pk_some h
  · refine pk_nn ?_
    refine pk_nn ?_
    refine pk_ite ?_ ?_
    · exact (QQ_X12_many_98 h)
    · exact (QQ_X12_many_98 h)
theorem QQ_X12_many_L64 {z : mG} {x1 : Int32} {x4 : Int32} {x5 : Int32} {s : mG} (h : KQw z s) : pk (F_X12_many_L64 x1 x4 x5 s) (fun τ => KQw z τ.2) := by
  unfold F_X12_many_L64
  refine pk_whl (fun v => KQw z v.2.2.2) h (fun v hv => ?_)
  obtain ⟨y0, y1, y2, y3⟩ := v
  exact QQ_X12_many_B64 hv
theorem QQ_X12_many_B16 {z : mG} {x1 : Int32} {x2 : Int64} {x4 : Int32} {s : mG} (h : KQw z s) : pk (F_X12_many_B16 x1 x2 x4 s) (se (fun τ => KQw z τ.2.2.2) (fun τ => KQw z τ.2)) := by
  unfold F_X12_many_B16
  refine pk_ite ?_ ?_
  · refine pk_ite ?_ ?_
    · extract_lets +onlyGivenNames v_1
      clear_value v_1
      exact pk_some h
    · refine pk_b1 (QQ_X12_laysChances h) (fun s_2 (h_3 : KQw z s_2) => ?_)
      refine pk_b1r ?_
      exact (QQ_X12_many_L64 h_3)
  · refine pk_b2 (QQ_X12_sureOf h) (fun _ s_4 (h_5 : KQw z s_4) => ?_)
    exact pk_some h_5
theorem QQ_X12_many_L16 {z : mG} {x1 : Int32} {x2 : Int64} {x4 : Int32} {s : mG} (h : KQw z s) : pk (F_X12_many_L16 x1 x2 x4 s) (fun τ => KQw z τ.2) := by
  unfold F_X12_many_L16
  refine pk_whl (fun v => KQw z v.2.2.2) h (fun v hv => ?_)
  obtain ⟨y0, y1, y2, y3⟩ := v
  exact QQ_X12_many_B16 hv
theorem QQ_X12_many {z : mG} {a1 : Int32} {s : mG} (h : KQw z s) : pk (F_X12_many a1 s) (fun τ => KQw z τ.2) := by
  unfold F_X12_many
  refine pk_b1 pk_top (fun _ _ => ?_)
  refine pk_ite ?_ ?_
  · exact pk_some h
  · exact (QQ_X12_many_L16 h)
theorem QQ_X12_tagCostOf_B6 {z : mG} {x1 : Int32} {x2 : Int32} {x3 : Int32} {x4 : Int32} {x5 : Int32} {s : mG} (h : KQw z s) : pk (F_X12_tagCostOf_B6 x1 x2 x3 x4 x5 s) (se (fun τ => KQw z τ.2.2.2.2.2) (fun τ => KQw z τ.2)) := by
  unfold F_X12_tagCostOf_B6
  refine pk_ite ?_ ?_
  · extract_lets +onlyGivenNames v_1
    clear_value v_1
    exact pk_some h
  · refine pk_nn ?_
    refine pk_b2 (QQ_X12_saysIn h) (fun _ s_2 (h_3 : KQw z s_2) => ?_)
    exact pk_some h_3
theorem QQ_X12_tagCostOf_L6 {z : mG} {x1 : Int32} {x2 : Int32} {x3 : Int32} {x4 : Int32} {x5 : Int32} {s : mG} (h : KQw z s) : pk (F_X12_tagCostOf_L6 x1 x2 x3 x4 x5 s) (fun τ => KQw z τ.2) := by
  unfold F_X12_tagCostOf_L6
  refine pk_whl (fun v => KQw z v.2.2.2.2.2) h (fun v hv => ?_)
  obtain ⟨y0, y1, y2, y3, y4, y5⟩ := v
  exact QQ_X12_tagCostOf_B6 hv
theorem QQ_X12_tagCostOf {z : mG} {a1 : Int32} {a2 : Int32} {a3 : Int32} {s : mG} (h : KQw z s) : pk (F_X12_tagCostOf a1 a2 a3 s) (fun τ => KQw z τ.2) := by
  unfold F_X12_tagCostOf
  exact (QQ_X12_tagCostOf_L6 h)
theorem QQ_X12_tag_22 {z : mG} {s : mG} (h : KQw z s) : pk (F_X12_tag_22 s) (fun τ => KQw z τ.2) := by
  unfold F_X12_tag_22
  exact pk_some h
theorem QQ_X12_tag_57 {z : mG} {x1 : Int32} {x2 : Int32} {x3 : Int32} {x4 : Int32} {s : mG} (h : KQw z s) : pk (F_X12_tag_57 x1 x2 x3 x4 s) (se (fun τ => KQw z τ.2.2.2.2) (fun τ => KQw z τ.2)) := by
  unfold F_X12_tag_57
  exact pk_some h
theorem QQ_X12_tag_B29 {z : mG} {x1 : Int32} {x2 : Int32} {x3 : Int32} {x4 : Int32} {s : mG} (h : KQw z s) : pk (F_X12_tag_B29 x1 x2 x3 x4 s) (se (fun τ => KQw z τ.2.2.2.2) (fun τ => KQw z τ.2)) := by
  unfold F_X12_tag_B29
  refine pk_ite ?_ ?_
  · exact pk_some h
  · refine pk_b2 (QQ_X12_tagCostOf h) (fun _ s_1 (h_2 : KQw z s_1) => ?_)
    refine pk_b2 (QQ_X12_tagCostOf h_2) (fun _ s_3 (h_4 : KQw z s_3) => ?_)
    refine pk_ite ?_ ?_
    · exact (QQ_X12_tag_57 h_4)
    · exact (QQ_X12_tag_57 h_4)
theorem QQ_X12_tag_L29 {z : mG} {x1 : Int32} {x2 : Int32} {x3 : Int32} {x4 : Int32} {s : mG} (h : KQw z s) : pk (F_X12_tag_L29 x1 x2 x3 x4 s) (fun τ => KQw z τ.2) := by
  unfold F_X12_tag_L29
  refine pk_whl (fun v => KQw z v.2.2.2.2) h (fun v hv => ?_)
  obtain ⟨y0, y1, y2, y3, y4⟩ := v
  exact QQ_X12_tag_B29 hv
theorem QQ_X12_tag {z : mG} {a1 : Int32} {a2 : Int32} {s : mG} (h : KQw z s) : pk (F_X12_tag a1 a2 s) (fun τ => KQw z τ.2) := by
  unfold F_X12_tag
  refine pk_b1 pk_top (fun _ _ => ?_)
  refine pk_ite ?_ ?_
  · exact (QQ_X12_tag_22 h)
  · refine pk_b1 pk_top (fun _ _ => ?_)
    refine pk_ite ?_ ?_
    · exact (QQ_X12_tag_22 h)
    · exact (QQ_X12_tag_L29 h)
theorem QQ_X12_tagCost_42 {z : mG} {s : mG} (h : KQw z s) : pk (F_X12_tagCost_42 s) (fun τ => KQw z τ.2) := by
  unfold F_X12_tagCost_42
  exact pk_some h
theorem QQ_X12_tagCost {z : mG} {a1 : Int32} {a2 : Int32} {a3 : Int32} {s : mG} (h : KQw z s) : pk (F_X12_tagCost a1 a2 a3 s) (fun τ => KQw z τ.2) := by
  unfold F_X12_tagCost
  refine pk_b1 pk_top (fun _ _ => ?_)
  refine pk_ite ?_ ?_
  · exact (QQ_X12_tagCost_42 h)
  · refine pk_b1 pk_top (fun _ _ => ?_)
    refine pk_ite ?_ ?_
    · exact (QQ_X12_tagCost_42 h)
    · refine pk_b1 pk_top (fun _ _ => ?_)
      refine pk_ite ?_ ?_
      · exact (QQ_X12_tagCost_42 h)
      · refine pk_b2 (QQ_X12_tagCostOf h) (fun _ s_1 (h_2 : KQw z s_1) => ?_)
        exact pk_some h_2
theorem QQ_X12_span_20 {z : mG} {s : mG} (h : KQw z s) : pk (F_X12_span_20 s) (fun τ => KQw z τ.2) := by
  unfold F_X12_span_20
  exact pk_some h
theorem QQ_X12_span_103 {z : mG} {x4 : Int32} {s : mG} (h : KQw z s) : pk (F_X12_span_103 x4 s) (fun τ => KQw z τ.2) := by
  unfold F_X12_span_103
  exact pk_some h
theorem QQ_X12_span_87 {z : mG} {x1 : Int32} {x2 : Int32} {x3 : Int32} {x4 : Int32} {x5 : Int32} {s : mG} (h : KQw z s) : pk (F_X12_span_87 x1 x2 x3 x4 x5 s) (se (fun τ => KQw z τ.2.2.2.2.2) (fun τ => KQw z τ.2)) := by
  unfold F_X12_span_87
  exact pk_some h
theorem QQ_X12_span_80 {z : mG} {x1 : Int32} {x2 : Int32} {x5 : Int32} {x6 : Int32} {s : mG} (h : KQw z s) : pk (F_X12_span_80 x1 x2 x5 x6 s) (se (fun τ => KQw z τ.2.2.2.2.2) (fun τ => KQw z τ.2)) := by
  unfold F_X12_span_80
  exact (QQ_X12_span_87 h)
theorem QQ_X12_span_B34 {z : mG} {x1 : Int32} {x2 : Int32} {x3 : Int32} {x4 : Int32} {x5 : Int32} {s : mG} (h : KQw z s) : pk (F_X12_span_B34 x1 x2 x3 x4 x5 s) (se (fun τ => KQw z τ.2.2.2.2.2) (fun τ => KQw z τ.2)) := by
  unfold F_X12_span_B34
  refine pk_ite ?_ ?_
  · refine pk_ite ?_ ?_
    · refine pk_b1r ?_
      exact (QQ_X12_span_103 h)
    · refine pk_ite ?_ ?_
      · refine pk_b1r ?_
        exact (QQ_X12_span_103 h)
      · exact pk_some h
  · refine pk_b1 pk_top (fun _ _ => ?_)
    refine pk_ite ?_ ?_
    · exact (QQ_X12_span_87 h)
    · refine pk_ite ?_ ?_
      · exact (QQ_X12_span_80 h)
      · refine pk_ite ?_ ?_
        · exact (QQ_X12_span_80 h)
        · exact (QQ_X12_span_87 h)
theorem QQ_X12_span_L34 {z : mG} {x1 : Int32} {x2 : Int32} {x3 : Int32} {x4 : Int32} {x5 : Int32} {s : mG} (h : KQw z s) : pk (F_X12_span_L34 x1 x2 x3 x4 x5 s) (fun τ => KQw z τ.2) := by
  unfold F_X12_span_L34
  refine pk_whl (fun v => KQw z v.2.2.2.2.2) h (fun v hv => ?_)
  obtain ⟨y0, y1, y2, y3, y4, y5⟩ := v
  exact QQ_X12_span_B34 hv
theorem QQ_X12_span {z : mG} {a1 : Int32} {a2 : Int32} {s : mG} (h : KQw z s) : pk (F_X12_span a1 a2 s) (fun τ => KQw z τ.2) := by
  unfold F_X12_span
  refine pk_b1 pk_top (fun _ _ => ?_)
  refine pk_ite ?_ ?_
  · exact (QQ_X12_span_20 h)
  · refine pk_b1 pk_top (fun _ _ => ?_)
    refine pk_ite ?_ ?_
    · exact (QQ_X12_span_20 h)
    · refine pk_b1 (QQ_X12_laysChances h) (fun s_1 (h_2 : KQw z s_1) => ?_)
      exact (QQ_X12_span_L34 h_2)
theorem QQ_X12_laysOthers_115 {z : mG} {x1 : Int32} {x2 : Int32} {s : mG} (h : KQw z s) : pk (F_X12_laysOthers_115 x1 x2 s) (se (fun τ => KQw z τ.2.2) (fun τ => KQw z τ)) := by
  unfold F_X12_laysOthers_115
  exact pk_some h
theorem QQ_X12_laysOthers_B63 {z : mG} {x1 : Int32} {x2 : Int32} {x3 : Int64} {x5 : Int32} {s : mG} (h : KQw z s) : pk (F_X12_laysOthers_B63 x1 x2 x3 x5 s) (se (fun τ => KQw z τ.2.2.2.2) (se (fun τ => KQw z τ.2.2) (fun τ => KQw z τ))) := by
  unfold F_X12_laysOthers_B63
  refine pk_ite ?_ ?_
  · refine pk_b1r ?_
    exact (QQ_X12_laysOthers_115 h)
  · refine pk_nn ?_
    refine pk_nn ?_
    refine pk_nn ?_
    extract_lets +onlyGivenNames s_1
    have h_2 : KQw z s_1 := h
    clear_value s_1
    exact pk_some h_2
theorem QQ_X12_laysOthers_L63 {z : mG} {x1 : Int32} {x2 : Int32} {x3 : Int64} {x5 : Int32} {s : mG} (h : KQw z s) : pk (F_X12_laysOthers_L63 x1 x2 x3 x5 s) (se (fun τ => KQw z τ.2.2) (fun τ => KQw z τ)) := by
  unfold F_X12_laysOthers_L63
  refine pk_whl (fun v => KQw z v.2.2.2.2) h (fun v hv => ?_)
  obtain ⟨y0, y1, y2, y3, y4⟩ := v
  exact QQ_X12_laysOthers_B63 hv
theorem QQ_X12_laysOthers_B34 {z : mG} {x1 : Int32} {x2 : Int32} {s : mG} (h : KQw z s) : pk (F_X12_laysOthers_B34 x1 x2 s) (se (fun τ => KQw z τ.2.2) (fun τ => KQw z τ)) := by
  unfold F_X12_laysOthers_B34
  refine pk_ite ?_ ?_
  · exact pk_some h
  · refine pk_ite ?_ ?_
    · exact (QQ_X12_laysOthers_115 h)
    · refine pk_b2 (QQ_X12_sureOf h) (fun _ s_1 (h_2 : KQw z s_1) => ?_)
      exact (QQ_X12_laysOthers_L63 h_2)
theorem QQ_X12_laysOthers_L34 {z : mG} {x1 : Int32} {x2 : Int32} {s : mG} (h : KQw z s) : pk (F_X12_laysOthers_L34 x1 x2 s) (fun τ => KQw z τ) := by
  unfold F_X12_laysOthers_L34
  refine pk_whl (fun v => KQw z v.2.2) h (fun v hv => ?_)
  obtain ⟨y0, y1, y2⟩ := v
  exact QQ_X12_laysOthers_B34 hv
theorem QQ_X12_laysOthers_25 {z : mG} {x1 : Int32} {x2 : Int32} {y1 : Int32} {y2 : Int64} {s : mG} (h : KQw z s) : pk (F_X12_laysOthers_25 x1 x2 y1 y2 s) (se (fun τ => KQw z τ.2.2) (fun τ => KQw z τ)) := by
  unfold F_X12_laysOthers_25
  refine pk_nn ?_
  extract_lets +onlyGivenNames s_1
  have h_2 : KQw z s_1 := h
  clear_value s_1
  exact pk_some h_2
theorem QQ_X12_laysOthers_B2 {z : mG} {x1 : Int32} {x2 : Int32} {s : mG} (h : KQw z s) : pk (F_X12_laysOthers_B2 x1 x2 s) (se (fun τ => KQw z τ.2.2) (fun τ => KQw z τ)) := by
  unfold F_X12_laysOthers_B2
  refine pk_ite ?_ ?_
  · refine pk_b1r ?_
    exact (QQ_X12_laysOthers_L34 h)
  · refine pk_ite ?_ ?_
    · exact (QQ_X12_laysOthers_25 h)
    · exact (QQ_X12_laysOthers_25 h)
theorem QQ_X12_laysOthers_L2 {z : mG} {x1 : Int32} {x2 : Int32} {s : mG} (h : KQw z s) : pk (F_X12_laysOthers_L2 x1 x2 s) (fun τ => KQw z τ) := by
  unfold F_X12_laysOthers_L2
  refine pk_whl (fun v => KQw z v.2.2) h (fun v hv => ?_)
  obtain ⟨y0, y1, y2⟩ := v
  exact QQ_X12_laysOthers_B2 hv
theorem QQ_X12_laysOthers {z : mG} {a1 : Int32} {s : mG} (h : KQw z s) : pk (F_X12_laysOthers a1 s) (fun τ => KQw z τ) := by
  unfold F_X12_laysOthers
  exact (QQ_X12_laysOthers_L2 h)
theorem QQ_X12_counted_18 {z : mG} {s : mG} (h : KQw z s) : pk (F_X12_counted_18 s) (fun τ => KQw z τ.2) := by
  unfold F_X12_counted_18
  exact pk_some h
theorem QQ_X12_counted {z : mG} {a1 : Int32} {a2 : Int32} {s : mG} (h : KQw z s) : pk (F_X12_counted a1 a2 s) (fun τ => KQw z τ.2) := by
  unfold F_X12_counted
  refine pk_b1 pk_top (fun _ _ => ?_)
  refine pk_ite ?_ ?_
  · exact (QQ_X12_counted_18 h)
  · refine pk_b1 pk_top (fun _ _ => ?_)
    refine pk_ite ?_ ?_
    · exact (QQ_X12_counted_18 h)
    · refine pk_b1 (QQ_X12_laysOthers h) (fun s_1 (h_2 : KQw z s_1) => ?_)
      refine pk_b2 (QQ_X12_sureOf h_2) (fun _ s_3 (h_4 : KQw z s_3) => ?_)
      refine pk_nn ?_
      extract_lets +onlyGivenNames v_5
      clear_value v_5
      refine pk_nn ?_
      extract_lets +onlyGivenNames v_6
      clear_value v_6
      refine pk_ite ?_ ?_
      · exact pk_some h_4
      · refine pk_nn ?_
        extract_lets +onlyGivenNames v_7
        clear_value v_7
        exact pk_some h_4
theorem QQ_X12_visit_17 {z : mG} {s : mG} (h : KQw z s) : pk (F_X12_visit_17 s) (fun τ => KQw z τ.2) := by
  unfold F_X12_visit_17
  exact pk_some h
theorem QQ_X12_visit_154 {z : mG} {x1 : Int32} {x2 : Int32} {x3 : Int64} {x5 : Int32} {x6 : Int64} {x8 : Int32} {s : mG} (h : KQw z s) : pk (F_X12_visit_154 x1 x2 x3 x5 x6 x8 s) (se (fun τ => KQw z τ.2.2.2.2.2.2) (fun τ => KQw z τ.2)) := by
  unfold F_X12_visit_154
  exact pk_some h
theorem QQ_X12_visit_B34 {z : mG} {x1 : Int32} {x2 : Int32} {x3 : Int64} {x5 : Int32} {x6 : Int64} {x8 : Int32} {s : mG} (h : KQw z s) : pk (F_X12_visit_B34 x1 x2 x3 x5 x6 x8 s) (se (fun τ => KQw z τ.2.2.2.2.2.2) (fun τ => KQw z τ.2)) := by
  unfold F_X12_visit_B34
  refine pk_ite ?_ ?_
  · refine pk_ite ?_ ?_
    · exact pk_some h
    · exact pk_some h
  · refine pk_nn ?_
    refine pk_b2 (QQ_X12_saysIn h) (fun _ s_1 (h_2 : KQw z s_1) => ?_)
    refine pk_nn ?_
    refine pk_b2 (QQ_X12_saysIn h_2) (fun _ s_3 (h_4 : KQw z s_3) => ?_)
    extract_lets +onlyGivenNames v_5
    clear_value v_5
    refine pk_ite ?_ ?_
    · exact (QQ_X12_visit_154 h_4)
    · exact (QQ_X12_visit_154 h_4)
theorem QQ_X12_visit_L34 {z : mG} {x1 : Int32} {x2 : Int32} {x3 : Int64} {x5 : Int32} {x6 : Int64} {x8 : Int32} {s : mG} (h : KQw z s) : pk (F_X12_visit_L34 x1 x2 x3 x5 x6 x8 s) (fun τ => KQw z τ.2) := by
  unfold F_X12_visit_L34
  refine pk_whl (fun v => KQw z v.2.2.2.2.2.2) h (fun v hv => ?_)
  obtain ⟨y0, y1, y2, y3, y4, y5, y6⟩ := v
  exact QQ_X12_visit_B34 hv
theorem QQ_X12_visit {z : mG} {a1 : Int32} {a2 : Int32} {s : mG} (h : KQw z s) : pk (F_X12_visit a1 a2 s) (fun τ => KQw z τ.2) := by
  unfold F_X12_visit
  refine pk_b1 pk_top (fun _ _ => ?_)
  refine pk_ite ?_ ?_
  · exact (QQ_X12_visit_17 h)
  · refine pk_b1 pk_top (fun _ _ => ?_)
    refine pk_ite ?_ ?_
    · exact (QQ_X12_visit_17 h)
    · refine pk_b2 (QQ_X12_sureOf h) (fun _ s_1 (h_2 : KQw z s_1) => ?_)
      exact (QQ_X12_visit_L34 h_2)
theorem QQ_X12_movesIn_36 {z : mG} {x1 : Int32} {x3 : Int32} {y0 : Int32} {y2 : Int32} {s : mG} (h : KQw z s) : pk (F_X12_movesIn_36 x1 x3 y0 y2 s) (se (fun τ => KQw z τ.2.2.2) (fun τ => KQw z τ.2)) := by
  unfold F_X12_movesIn_36
  refine pk_nn ?_
  refine pk_b2 (QQ_X12_saysIn h) (fun _ s_1 (h_2 : KQw z s_1) => ?_)
  exact pk_some h_2
theorem QQ_X12_movesIn_B4 {z : mG} {x1 : Int32} {x2 : Int32} {x3 : Int32} {s : mG} (h : KQw z s) : pk (F_X12_movesIn_B4 x1 x2 x3 s) (se (fun τ => KQw z τ.2.2.2) (fun τ => KQw z τ.2)) := by
  unfold F_X12_movesIn_B4
  refine pk_ite ?_ ?_
  · exact pk_some h
  · refine pk_nn ?_
    refine pk_ite ?_ ?_
    · exact (QQ_X12_movesIn_36 h)
    · exact (QQ_X12_movesIn_36 h)
theorem QQ_X12_movesIn_L4 {z : mG} {x1 : Int32} {x2 : Int32} {x3 : Int32} {s : mG} (h : KQw z s) : pk (F_X12_movesIn_L4 x1 x2 x3 s) (fun τ => KQw z τ.2) := by
  unfold F_X12_movesIn_L4
  refine pk_whl (fun v => KQw z v.2.2.2) h (fun v hv => ?_)
  obtain ⟨y0, y1, y2, y3⟩ := v
  exact QQ_X12_movesIn_B4 hv
theorem QQ_X12_movesIn {z : mG} {a1 : Int32} {s : mG} (h : KQw z s) : pk (F_X12_movesIn a1 s) (fun τ => KQw z τ.2) := by
  unfold F_X12_movesIn
  exact (QQ_X12_movesIn_L4 h)
theorem QQ_X12_expect {z : mG} {s : mG} (h : KQw z s) : pk (F_X12_expect s) (fun τ => KQw z τ.2) := by
  unfold F_X12_expect
  refine pk_b2 (QQ_X12_movesIn h) (fun _ s_1 (h_2 : KQw z s_1) => ?_)
  exact pk_some h_2
theorem QQ_X12_busy_57 {z : mG} {x1 : Int32} {x2 : Int32} {x3 : Int32} {x4 : Int32} {s : mG} (h : KQw z s) : pk (F_X12_busy_57 x1 x2 x3 x4 s) (se (fun τ => KQw z τ.2.2.2.2) (fun τ => KQw z τ.2)) := by
  unfold F_X12_busy_57
  exact pk_some h
theorem QQ_X12_busy_B29 {z : mG} {x1 : Int32} {x2 : Int32} {x3 : Int32} {x4 : Int32} {s : mG} (h : KQw z s) : pk (F_X12_busy_B29 x1 x2 x3 x4 s) (se (fun τ => KQw z τ.2.2.2.2) (fun τ => KQw z τ.2)) := by
  unfold F_X12_busy_B29
  refine pk_ite ?_ ?_
  · refine pk_ite ?_ ?_
    · exact pk_some h
    · refine pk_b2 (QQ_X12_movesIn h) (fun _ s_1 (h_2 : KQw z s_1) => ?_)
      exact pk_some h_2
  · refine pk_b2 (QQ_X12_movesIn h) (fun _ s_3 (h_4 : KQw z s_3) => ?_)
    refine pk_b2 (QQ_X12_movesIn h_4) (fun _ s_5 (h_6 : KQw z s_5) => ?_)
    refine pk_ite ?_ ?_
    · exact (QQ_X12_busy_57 h_6)
    · exact (QQ_X12_busy_57 h_6)
theorem QQ_X12_busy_L29 {z : mG} {x1 : Int32} {x2 : Int32} {x3 : Int32} {x4 : Int32} {s : mG} (h : KQw z s) : pk (F_X12_busy_L29 x1 x2 x3 x4 s) (fun τ => KQw z τ.2) := by
  unfold F_X12_busy_L29
  refine pk_whl (fun v => KQw z v.2.2.2.2) h (fun v hv => ?_)
  obtain ⟨y0, y1, y2, y3, y4⟩ := v
  exact QQ_X12_busy_B29 hv
theorem QQ_X12_busy {z : mG} {a1 : Int32} {s : mG} (h : KQw z s) : pk (F_X12_busy a1 s) (fun τ => KQw z τ.2) := by
  unfold F_X12_busy
  refine pk_b1 pk_top (fun _ _ => ?_)
  refine pk_ite ?_ ?_
  · exact pk_some h
  · extract_lets +onlyGivenNames v_1
    clear_value v_1
    exact (QQ_X12_busy_L29 h)
theorem QQ_X12_lack_80 {z : mG} {x1 : Int32} {x2 : Int32} {x3 : Int32} {x4 : Int64} {x6 : Int32} {s : mG} (h : KQw z s) : pk (F_X12_lack_80 x1 x2 x3 x4 x6 s) (se (fun τ => KQw z τ.2.2.2.2.2) (fun τ => KQw z τ.2)) := by
  unfold F_X12_lack_80
  exact pk_some h
theorem QQ_X12_lack_B21 {z : mG} {x1 : Int32} {x2 : Int32} {x3 : Int32} {x4 : Int64} {x6 : Int32} {s : mG} (h : KQw z s) : pk (F_X12_lack_B21 x1 x2 x3 x4 x6 s) (se (fun τ => KQw z τ.2.2.2.2.2) (fun τ => KQw z τ.2)) := by
  unfold F_X12_lack_B21
  refine pk_ite ?_ ?_
  · refine pk_ite ?_ ?_
    · exact pk_some h
    · refine pk_ite ?_ ?_
      · extract_lets +onlyGivenNames v_1
        clear_value v_1
        exact pk_some h
      · exact pk_some h
  · refine pk_nn ?_
    refine pk_ite ?_ ?_
    · refine pk_nn ?_
      extract_lets +onlyGivenNames v_2
      clear_value v_2
      refine pk_b2 (QQ_X12_sureOf h) (fun _ s_3 (h_4 : KQw z s_3) => ?_)
      extract_lets +onlyGivenNames v_5
      clear_value v_5
      exact (QQ_X12_lack_80 h_4)
    · exact (QQ_X12_lack_80 h)
theorem QQ_X12_lack_L21 {z : mG} {x1 : Int32} {x2 : Int32} {x3 : Int32} {x4 : Int64} {x6 : Int32} {s : mG} (h : KQw z s) : pk (F_X12_lack_L21 x1 x2 x3 x4 x6 s) (fun τ => KQw z τ.2) := by
  unfold F_X12_lack_L21
  refine pk_whl (fun v => KQw z v.2.2.2.2.2) h (fun v hv => ?_)
  obtain ⟨y0, y1, y2, y3, y4, y5⟩ := v
  exact QQ_X12_lack_B21 hv
theorem QQ_X12_lack {z : mG} {a1 : Int32} {s : mG} (h : KQw z s) : pk (F_X12_lack a1 s) (fun τ => KQw z τ.2) := by
  unfold F_X12_lack
  refine pk_b1 pk_top (fun _ _ => ?_)
  refine pk_ite ?_ ?_
  · exact pk_some h
  · exact (QQ_X12_lack_L21 h)
theorem QQ_X12_empty_64 {z : mG} {x1 : Int32} {x4 : Int32} {y0 : Int64} {s : mG} (h : KQw z s) : pk (F_X12_empty_64 x1 x4 y0 s) (se (fun τ => KQw z τ.2.2.2) (fun τ => KQw z τ.2)) := by
  unfold F_X12_empty_64
  exact pk_some h
theorem QQ_X12_empty_B18 {z : mG} {x1 : Int32} {x2 : Int64} {x4 : Int32} {s : mG} (h : KQw z s) : pk (F_X12_empty_B18 x1 x2 x4 s) (se (fun τ => KQw z τ.2.2.2) (fun τ => KQw z τ.2)) := by
  unfold F_X12_empty_B18
  refine pk_ite ?_ ?_
  · exact pk_some h
  · refine pk_nn ?_
    refine pk_ite ?_ ?_
    · refine pk_b2 (QQ_X12_sureOf h) (fun _ s_1 (h_2 : KQw z s_1) => ?_)
      exact (QQ_X12_empty_64 h_2)
    · exact (QQ_X12_empty_64 h)
theorem QQ_X12_empty_L18 {z : mG} {x1 : Int32} {x2 : Int64} {x4 : Int32} {s : mG} (h : KQw z s) : pk (F_X12_empty_L18 x1 x2 x4 s) (fun τ => KQw z τ.2) := by
  unfold F_X12_empty_L18
  refine pk_whl (fun v => KQw z v.2.2.2) h (fun v hv => ?_)
  obtain ⟨y0, y1, y2, y3⟩ := v
  exact QQ_X12_empty_B18 hv
theorem QQ_X12_empty {z : mG} {a1 : Int32} {s : mG} (h : KQw z s) : pk (F_X12_empty a1 s) (fun τ => KQw z τ.2) := by
  unfold F_X12_empty
  refine pk_b1 pk_top (fun _ _ => ?_)
  refine pk_ite ?_ ?_
  · exact pk_some h
  · exact (QQ_X12_empty_L18 h)
theorem QQ_X12_isKnockedAhead_42 {z : mG} {s : mG} (h : KQw z s) : pk (F_X12_isKnockedAhead_42 s) (fun τ => KQw z τ.2) := by
  unfold F_X12_isKnockedAhead_42
  exact pk_some h
theorem QQ_X12_isKnockedAhead_46 {z : mG} {s : mG} (h : KQw z s) : pk (F_X12_isKnockedAhead_46 s) (fun τ => KQw z τ.2) := by
  unfold F_X12_isKnockedAhead_46
  exact pk_some h
theorem QQ_X12_isKnockedAhead {z : mG} {a1 : Int32} {a2 : Int32} {s : mG} (h : KQw z s) : pk (F_X12_isKnockedAhead a1 a2 s) (fun τ => KQw z τ.2) := by
  unfold F_X12_isKnockedAhead
  refine pk_b1 pk_top (fun _ _ => ?_)
  refine pk_b2 (QQ_X12_sureOf h) (fun _ s_1 (h_2 : KQw z s_1) => ?_)
  refine pk_b1 pk_top (fun _ _ => ?_)
  refine pk_b2 (QQ_X12_sureOf h_2) (fun _ s_3 (h_4 : KQw z s_3) => ?_)
  refine pk_ite ?_ ?_
  · exact (QQ_X12_isKnockedAhead_42 h_4)
  · refine pk_ite ?_ ?_
    · refine pk_ite ?_ ?_
      · exact (QQ_X12_isKnockedAhead_46 h_4)
      · exact (QQ_X12_isKnockedAhead_42 h_4)
    · exact (QQ_X12_isKnockedAhead_46 h_4)
theorem QQ_X12_knocks_52 {z : mG} {x1 : Int32} {x2 : Int32} {x4 : Int32} {y0 : Int32} {y1 : Int32} {s : mG} (h : KQw z s) : pk (F_X12_knocks_52 x1 x2 x4 y0 y1 s) (se (fun τ => KQw z τ.2.2.2.2) (se (fun τ => KQw z τ.2.2) (fun τ => KQw z τ.2))) := by
  unfold F_X12_knocks_52
  exact pk_some h
theorem QQ_X12_knocks_51 {z : mG} {x1 : Int32} {x2 : Int32} {x4 : Int32} {y0 : Int32} {s : mG} (h : KQw z s) : pk (F_X12_knocks_51 x1 x2 x4 y0 s) (se (fun τ => KQw z τ.2.2.2.2) (se (fun τ => KQw z τ.2.2) (fun τ => KQw z τ.2))) := by
  unfold F_X12_knocks_51
  exact (QQ_X12_knocks_52 h)
theorem QQ_X12_knocks_B18 {z : mG} {x1 : Int32} {x2 : Int32} {x3 : Int32} {x4 : Int32} {s : mG} (h : KQw z s) : pk (F_X12_knocks_B18 x1 x2 x3 x4 s) (se (fun τ => KQw z τ.2.2.2.2) (se (fun τ => KQw z τ.2.2) (fun τ => KQw z τ.2))) := by
  unfold F_X12_knocks_B18
  refine pk_ite ?_ ?_
  · refine pk_ite ?_ ?_
    · exact pk_some h
    · exact pk_some h
  · refine pk_ite ?_ ?_
    · exact (QQ_X12_knocks_51 h)
    · refine pk_b2 (QQ_X12_isKnockedAhead h) (fun _ s_1 (h_2 : KQw z s_1) => ?_)
      refine pk_ite ?_ ?_
      · exact (QQ_X12_knocks_51 h_2)
      · exact (QQ_X12_knocks_52 h_2)
theorem QQ_X12_knocks_L18 {z : mG} {x1 : Int32} {x2 : Int32} {x3 : Int32} {x4 : Int32} {s : mG} (h : KQw z s) : pk (F_X12_knocks_L18 x1 x2 x3 x4 s) (se (fun τ => KQw z τ.2.2) (fun τ => KQw z τ.2)) := by
  unfold F_X12_knocks_L18
  refine pk_whl (fun v => KQw z v.2.2.2.2) h (fun v hv => ?_)
  obtain ⟨y0, y1, y2, y3, y4⟩ := v
  exact QQ_X12_knocks_B18 hv
theorem QQ_X12_knocks_B2 {z : mG} {x1 : Int32} {x2 : Int32} {s : mG} (h : KQw z s) : pk (F_X12_knocks_B2 x1 x2 s) (se (fun τ => KQw z τ.2.2) (fun τ => KQw z τ.2)) := by
  unfold F_X12_knocks_B2
  refine pk_ite ?_ ?_
  · exact pk_some h
  · exact (QQ_X12_knocks_L18 h)
theorem QQ_X12_knocks_L2 {z : mG} {x1 : Int32} {x2 : Int32} {s : mG} (h : KQw z s) : pk (F_X12_knocks_L2 x1 x2 s) (fun τ => KQw z τ.2) := by
  unfold F_X12_knocks_L2
  refine pk_whl (fun v => KQw z v.2.2) h (fun v hv => ?_)
  obtain ⟨y0, y1, y2⟩ := v
  exact QQ_X12_knocks_B2 hv
theorem QQ_X12_knocks {z : mG} {a1 : Int32} {s : mG} (h : KQw z s) : pk (F_X12_knocks a1 s) (fun τ => KQw z τ.2) := by
  unfold F_X12_knocks
  exact (QQ_X12_knocks_L2 h)
theorem QQ_X12_room_67 {z : mG} {s : mG} (h : KQw z s) : pk (F_X12_room_67 s) (fun τ => KQw z τ.2) := by
  unfold F_X12_room_67
  exact pk_some h
theorem QQ_X12_room {z : mG} {a1 : Int32} {a2 : Int32} {a3 : Int32} {a4 : Int32} {s : mG} (h : KQw z s) : pk (F_X12_room a1 a2 a3 a4 s) (fun τ => KQw z τ.2) := by
  unfold F_X12_room
  refine pk_ite ?_ ?_
  · extract_lets +onlyGivenNames s_1
    have h_2 : KQw z s_1 := KQw_mu h (Or.inl (by decide))
    clear_value s_1
    exact pk_some h_2
  · refine pk_b1 pk_top (fun _ _ => ?_)
    refine pk_ite ?_ ?_
    · exact (QQ_X12_room_67 h)
    · refine pk_b1 pk_top (fun _ _ => ?_)
      refine pk_ite ?_ ?_
      · exact (QQ_X12_room_67 h)
      · refine pk_b1 pk_top (fun _ _ => ?_)
        refine pk_ite ?_ ?_
        · exact (QQ_X12_room_67 h)
        · refine pk_b1 pk_top (fun _ _ => ?_)
          refine pk_ite ?_ ?_
          · exact (QQ_X12_room_67 h)
          · refine pk_ite ?_ ?_
            · exact (QQ_X12_room_67 h)
            · extract_lets +onlyGivenNames v_3
              clear_value v_3
              refine pk_nn ?_
              extract_lets +onlyGivenNames s_4
              have h_5 : KQw z s_4 := KQw_mu h (Or.inl (by decide))
              clear_value s_4
              refine pk_nn ?_
              extract_lets +onlyGivenNames s_6
              have h_7 : KQw z s_6 := KQw_mu h_5 (Or.inl (by decide))
              clear_value s_6
              refine pk_nn ?_
              extract_lets +onlyGivenNames s_8
              have h_9 : KQw z s_8 := KQw_mu h_7 (Or.inl (by decide))
              clear_value s_8
              refine pk_nn ?_
              extract_lets +onlyGivenNames s_10
              have h_11 : KQw z s_10 := KQw_mu h_9 (Or.inl (by decide))
              clear_value s_10
              extract_lets +onlyGivenNames s_12
              have h_13 : KQw z s_12 := KQw_mu h_11 (Or.inl (by decide))
              clear_value s_12
              exact pk_some h_13
theorem QQ_X12_laysFloors_B22 {z : mG} {x1 : Int32} {s : mG} (h : KQw z s) : pk (F_X12_laysFloors_B22 x1 s) (se (fun τ => KQw z τ.2) (fun τ => KQw z τ)) := by
  unfold F_X12_laysFloors_B22
  refine pk_ite ?_ ?_
  · exact pk_some h
  · refine pk_nn ?_
    extract_lets +onlyGivenNames v_1
    clear_value v_1
    refine pk_nn ?_
    refine pk_b2 (QQ_X12_sureOf h) (fun _ s_2 (h_3 : KQw z s_2) => ?_)
    refine pk_nn ?_
    extract_lets +onlyGivenNames s_4
    have h_5 : KQw z s_4 := h_3
    clear_value s_4
    exact pk_some h_5
theorem QQ_X12_laysFloors_L22 {z : mG} {x1 : Int32} {s : mG} (h : KQw z s) : pk (F_X12_laysFloors_L22 x1 s) (fun τ => KQw z τ) := by
  unfold F_X12_laysFloors_L22
  refine pk_whl (fun v => KQw z v.2) h (fun v hv => ?_)
  obtain ⟨y0, y1⟩ := v
  exact QQ_X12_laysFloors_B22 hv
theorem QQ_X12_laysFloors_B2 {z : mG} {x1 : Int32} {s : mG} (h : KQw z s) : pk (F_X12_laysFloors_B2 x1 s) (se (fun τ => KQw z τ.2) (fun τ => KQw z τ)) := by
  unfold F_X12_laysFloors_B2
  refine pk_ite ?_ ?_
  · refine pk_b1r ?_
    exact (QQ_X12_laysFloors_L22 h)
  · refine pk_nn ?_
    extract_lets +onlyGivenNames s_1
    have h_2 : KQw z s_1 := h
    clear_value s_1
    exact pk_some h_2
theorem QQ_X12_laysFloors_L2 {z : mG} {x1 : Int32} {s : mG} (h : KQw z s) : pk (F_X12_laysFloors_L2 x1 s) (fun τ => KQw z τ) := by
  unfold F_X12_laysFloors_L2
  refine pk_whl (fun v => KQw z v.2) h (fun v hv => ?_)
  obtain ⟨y0, y1⟩ := v
  exact QQ_X12_laysFloors_B2 hv
theorem QQ_X12_laysFloors {z : mG} {s : mG} (h : KQw z s) : pk (F_X12_laysFloors s) (fun τ => KQw z τ) := by
  unfold F_X12_laysFloors
  exact (QQ_X12_laysFloors_L2 h)
theorem QQ_X12_searches_169 {z : mG} {rec : Int32 → Int32 → Int32 → Int64 → mG → Option (mG)} {x1 : Int32} {x2 : Int32} {x3 : Int32} {x4 : Int64} {x6 : Int32} {s : mG} (hrec : ∀ (b0 : Int32) (b1 : Int32) (b2 : Int32) (b3 : Int64) (r : mG), KQw z r → pk (rec b0 b1 b2 b3 r) (fun τ => KQw z τ)) (h : KQw z s) : pk (F_X12_searches_169 rec x1 x2 x3 x4 x6 s) (se (fun τ => KQw z τ.2.2.2.2.2) (fun τ => KQw z τ)) := by
  unfold F_X12_searches_169
  exact pk_some h
theorem QQ_X12_searches_120 {z : mG} {rec : Int32 → Int32 → Int32 → Int64 → mG → Option (mG)} {x1 : Int32} {x2 : Int32} {x3 : Int32} {x4 : Int64} {x6 : Int32} {x7 : Int32} {y0 : Int32} {y1 : Int32} {y2 : Int32} {s : mG} (hrec : ∀ (b0 : Int32) (b1 : Int32) (b2 : Int32) (b3 : Int64) (r : mG), KQw z r → pk (rec b0 b1 b2 b3 r) (fun τ => KQw z τ)) (h : KQw z s) : pk (F_X12_searches_120 rec x1 x2 x3 x4 x6 x7 y0 y1 y2 s) (se (fun τ => KQw z τ.2.2.2.2.2) (fun τ => KQw z τ)) := by
  unfold F_X12_searches_120
  refine pk_ite ?_ ?_
  · refine pk_ite ?_ ?_
    · refine pk_nn ?_
      extract_lets +onlyGivenNames s_1
      have h_2 : KQw z s_1 := KQw_mu h (Or.inl (by decide))
      clear_value s_1
      refine pk_nn ?_
      refine pk_b1 (hrec _ _ _ _ _ h_2) (fun s_3 (h_4 : KQw z s_3) => ?_)
      exact (QQ_X12_searches_169 hrec h_4)
    · exact (QQ_X12_searches_169 hrec h)
  · exact (QQ_X12_searches_169 hrec h)
theorem QQ_X12_searches_93 {z : mG} {rec : Int32 → Int32 → Int32 → Int64 → mG → Option (mG)} {x1 : Int32} {x2 : Int32} {x3 : Int32} {x4 : Int64} {x6 : Int32} {x8 : Int32} {y0 : Int32} {s : mG} (hrec : ∀ (b0 : Int32) (b1 : Int32) (b2 : Int32) (b3 : Int64) (r : mG), KQw z r → pk (rec b0 b1 b2 b3 r) (fun τ => KQw z τ)) (h : KQw z s) : pk (F_X12_searches_93 rec x1 x2 x3 x4 x6 x8 y0 s) (se (fun τ => KQw z τ.2.2.2.2.2.2.2) (se (fun τ => KQw z τ.2.2.2.2.2) (fun τ => KQw z τ))) := by
  unfold F_X12_searches_93
  exact pk_some h
theorem QQ_X12_searches_88 {z : mG} {rec : Int32 → Int32 → Int32 → Int64 → mG → Option (mG)} {x1 : Int32} {x2 : Int32} {x3 : Int32} {x4 : Int64} {x6 : Int32} {x8 : Int32} {s : mG} (hrec : ∀ (b0 : Int32) (b1 : Int32) (b2 : Int32) (b3 : Int64) (r : mG), KQw z r → pk (rec b0 b1 b2 b3 r) (fun τ => KQw z τ)) (h : KQw z s) : pk (F_X12_searches_88 rec x1 x2 x3 x4 x6 x8 s) (se (fun τ => KQw z τ.2.2.2.2.2.2.2) (se (fun τ => KQw z τ.2.2.2.2.2) (fun τ => KQw z τ))) := by
  unfold F_X12_searches_88
  exact (QQ_X12_searches_93 hrec h)
theorem QQ_X12_searches_B65 {z : mG} {rec : Int32 → Int32 → Int32 → Int64 → mG → Option (mG)} {x1 : Int32} {x2 : Int32} {x3 : Int32} {x4 : Int64} {x6 : Int32} {x7 : Int32} {x8 : Int32} {s : mG} (hrec : ∀ (b0 : Int32) (b1 : Int32) (b2 : Int32) (b3 : Int64) (r : mG), KQw z r → pk (rec b0 b1 b2 b3 r) (fun τ => KQw z τ)) (h : KQw z s) : pk (F_X12_searches_B65 rec x1 x2 x3 x4 x6 x7 x8 s) (se (fun τ => KQw z τ.2.2.2.2.2.2.2) (se (fun τ => KQw z τ.2.2.2.2.2) (fun τ => KQw z τ))) := by
  unfold F_X12_searches_B65
  refine pk_ite ?_ ?_
  · refine pk_ite ?_ ?_
    · refine pk_b1r ?_
      exact (QQ_X12_searches_120 hrec h)
    · refine pk_b1r ?_
      exact (QQ_X12_searches_120 hrec h)
  · refine pk_ite ?_ ?_
    · refine pk_nn ?_
      refine pk_ite ?_ ?_
      · exact (QQ_X12_searches_88 hrec h)
      · exact (QQ_X12_searches_93 hrec h)
    · exact (QQ_X12_searches_88 hrec h)
theorem QQ_X12_searches_L65 {z : mG} {rec : Int32 → Int32 → Int32 → Int64 → mG → Option (mG)} {x1 : Int32} {x2 : Int32} {x3 : Int32} {x4 : Int64} {x6 : Int32} {x7 : Int32} {x8 : Int32} {s : mG} (hrec : ∀ (b0 : Int32) (b1 : Int32) (b2 : Int32) (b3 : Int64) (r : mG), KQw z r → pk (rec b0 b1 b2 b3 r) (fun τ => KQw z τ)) (h : KQw z s) : pk (F_X12_searches_L65 rec x1 x2 x3 x4 x6 x7 x8 s) (se (fun τ => KQw z τ.2.2.2.2.2) (fun τ => KQw z τ)) := by
  unfold F_X12_searches_L65
  refine pk_whl (fun v => KQw z v.2.2.2.2.2.2.2) h (fun v hv => ?_)
  obtain ⟨y0, y1, y2, y3, y4, y5, y6, y7⟩ := v
  exact QQ_X12_searches_B65 hrec hv
theorem QQ_X12_searches_B53 {z : mG} {rec : Int32 → Int32 → Int32 → Int64 → mG → Option (mG)} {x1 : Int32} {x2 : Int32} {x3 : Int32} {x4 : Int64} {x6 : Int32} {s : mG} (hrec : ∀ (b0 : Int32) (b1 : Int32) (b2 : Int32) (b3 : Int64) (r : mG), KQw z r → pk (rec b0 b1 b2 b3 r) (fun τ => KQw z τ)) (h : KQw z s) : pk (F_X12_searches_B53 rec x1 x2 x3 x4 x6 s) (se (fun τ => KQw z τ.2.2.2.2.2) (fun τ => KQw z τ)) := by
  unfold F_X12_searches_B53
  refine pk_ite ?_ ?_
  · exact pk_some h
  · exact (QQ_X12_searches_L65 hrec h)
theorem QQ_X12_searches_L53 {z : mG} {rec : Int32 → Int32 → Int32 → Int64 → mG → Option (mG)} {x1 : Int32} {x2 : Int32} {x3 : Int32} {x4 : Int64} {x6 : Int32} {s : mG} (hrec : ∀ (b0 : Int32) (b1 : Int32) (b2 : Int32) (b3 : Int64) (r : mG), KQw z r → pk (rec b0 b1 b2 b3 r) (fun τ => KQw z τ)) (h : KQw z s) : pk (F_X12_searches_L53 rec x1 x2 x3 x4 x6 s) (fun τ => KQw z τ) := by
  unfold F_X12_searches_L53
  refine pk_whl (fun v => KQw z v.2.2.2.2.2) h (fun v hv => ?_)
  obtain ⟨y0, y1, y2, y3, y4, y5⟩ := v
  exact QQ_X12_searches_B53 hrec hv
theorem QQ_X12_searches_50 {z : mG} {rec : Int32 → Int32 → Int32 → Int64 → mG → Option (mG)} {x1 : Int32} {x2 : Int32} {x3 : Int32} {x4 : Int64} {s : mG} (hrec : ∀ (b0 : Int32) (b1 : Int32) (b2 : Int32) (b3 : Int64) (r : mG), KQw z r → pk (rec b0 b1 b2 b3 r) (fun τ => KQw z τ)) (h : KQw z s) : pk (F_X12_searches_50 rec x1 x2 x3 x4 s) (fun τ => KQw z τ) := by
  unfold F_X12_searches_50
  exact (QQ_X12_searches_L53 hrec h)
theorem QQ_X12_searches_B24 {z : mG} {rec : Int32 → Int32 → Int32 → Int64 → mG → Option (mG)} {x1 : Int32} {x2 : Int32} {x3 : Int32} {x4 : Int64} {x6 : Int32} {s : mG} (hrec : ∀ (b0 : Int32) (b1 : Int32) (b2 : Int32) (b3 : Int64) (r : mG), KQw z r → pk (rec b0 b1 b2 b3 r) (fun τ => KQw z τ)) (h : KQw z s) : pk (F_X12_searches_B24 rec x1 x2 x3 x4 x6 s) (se (fun τ => KQw z τ.2.2.2.2.2) (fun τ => KQw z τ)) := by
  unfold F_X12_searches_B24
  refine pk_ite ?_ ?_
  · refine pk_b1r ?_
    exact (QQ_X12_searches_50 hrec h)
  · refine pk_nn ?_
    refine pk_nn ?_
    extract_lets +onlyGivenNames s_1
    have h_2 : KQw z s_1 := KQw_mu h (Or.inl (by decide))
    clear_value s_1
    exact pk_some h_2
theorem QQ_X12_searches_L24 {z : mG} {rec : Int32 → Int32 → Int32 → Int64 → mG → Option (mG)} {x1 : Int32} {x2 : Int32} {x3 : Int32} {x4 : Int64} {x6 : Int32} {s : mG} (hrec : ∀ (b0 : Int32) (b1 : Int32) (b2 : Int32) (b3 : Int64) (r : mG), KQw z r → pk (rec b0 b1 b2 b3 r) (fun τ => KQw z τ)) (h : KQw z s) : pk (F_X12_searches_L24 rec x1 x2 x3 x4 x6 s) (fun τ => KQw z τ) := by
  unfold F_X12_searches_L24
  refine pk_whl (fun v => KQw z v.2.2.2.2.2) h (fun v hv => ?_)
  obtain ⟨y0, y1, y2, y3, y4, y5⟩ := v
  exact QQ_X12_searches_B24 hrec hv
theorem QQ_X12_searches {z : mG} {rec : Int32 → Int32 → Int32 → Int64 → mG → Option (mG)} {a1 : Int32} {a2 : Int32} {a3 : Int32} {a4 : Int64} {s : mG} (hrec : ∀ (b0 : Int32) (b1 : Int32) (b2 : Int32) (b3 : Int64) (r : mG), KQw z r → pk (rec b0 b1 b2 b3 r) (fun τ => KQw z τ)) (h : KQw z s) : pk (F_X12_searches rec a1 a2 a3 a4 s) (fun τ => KQw z τ) := by
  unfold F_X12_searches
  refine pk_ite ?_ ?_
  · exact (QQ_X12_searches_50 hrec h)
  · extract_lets +onlyGivenNames s_1
    have h_2 : KQw z s_1 := h
    clear_value s_1
    extract_lets +onlyGivenNames s_3
    have h_4 : KQw z s_3 := KQw_mu h_2 (Or.inr (by decide))
    clear_value s_3
    exact (QQ_X12_searches_L24 hrec h_4)
theorem QQ_Q_X12_searches {z : mG} : ∀ (n : Nat) (a0 : Int32) (a1 : Int32) (a2 : Int32) (a3 : Int64) (s : mG), KQw z s → pk (Q_X12_searches n a0 a1 a2 a3 s) (fun τ => KQw z τ)
  | 0, _, _, _, _, _, _ => pk_none
  | n + 1, _, _, _, _, _, h => QQ_X12_searches (fun a0 a1 a2 a3 s h => QQ_Q_X12_searches n a0 a1 a2 a3 s h) h
theorem QQ_R_X12_searches {z : mG} {a0 : Int32} {a1 : Int32} {a2 : Int32} {a3 : Int64} {s : mG} (h : KQw z s) : pk (R_X12_searches a0 a1 a2 a3 s) (fun τ => KQw z τ) := QQ_Q_X12_searches 5 a0 a1 a2 a3 s h
theorem QQ_X12_fire_30 {z : mG} {s : mG} (h : KQw z s) : pk (F_X12_fire_30 s) (fun τ => KQw z τ.2) := by
  unfold F_X12_fire_30
  exact pk_some h
theorem QQ_X12_fire_32 {z : mG} {x1 : Int32} {x2 : Int32} {s : mG} (h : KQw z s) : pk (F_X12_fire_32 x1 x2 s) (fun τ => KQw z τ.2) := by
  unfold F_X12_fire_32
  refine pk_b1 (QQ_X12_laysFloors h) (fun s_1 (h_2 : KQw z s_1) => ?_)
  extract_lets +onlyGivenNames s_3
  have h_4 : KQw z s_3 := h_2
  clear_value s_3
  refine pk_b1 (QQ_X12_searches (fun _ _ _ _ _ h => QQ_R_X12_searches h) h_4) (fun s_5 (h_6 : KQw z s_5) => ?_)
  refine pk_ite ?_ ?_
  · extract_lets +onlyGivenNames v_7
    clear_value v_7
    exact pk_some h_6
  · refine pk_ite ?_ ?_
    · exact pk_some h_6
    · refine pk_ite ?_ ?_
      · exact pk_some h_6
      · refine pk_nn ?_
        extract_lets +onlyGivenNames v_8
        clear_value v_8
        exact pk_some h_6
theorem QQ_X12_fire {z : mG} {a1 : Int32} {a2 : Int32} {s : mG} (h : KQw z s) : pk (F_X12_fire a1 a2 s) (fun τ => KQw z τ.2) := by
  unfold F_X12_fire
  refine pk_b1 pk_top (fun _ _ => ?_)
  refine pk_ite ?_ ?_
  · exact (QQ_X12_fire_30 h)
  · refine pk_b1 pk_top (fun _ _ => ?_)
    refine pk_ite ?_ ?_
    · refine pk_b1 pk_top (fun _ _ => ?_)
      refine pk_ite ?_ ?_
      · exact (QQ_X12_fire_30 h)
      · exact (QQ_X12_fire_32 h)
    · exact (QQ_X12_fire_32 h)
theorem QQ_X12_laysDoors_161 {z : mG} {x1 : Int32} {x2 : Int32} {x3 : Int32} {s : mG} (h : KQw z s) : pk (F_X12_laysDoors_161 x1 x2 x3 s) (se (fun τ => KQw z τ.2.2.2) (se (fun τ => KQw z τ.2) (fun τ => KQw z τ))) := by
  unfold F_X12_laysDoors_161
  exact pk_some h
theorem QQ_X12_laysDoors_B45 {z : mG} {x1 : Int32} {x2 : Int32} {x3 : Int32} {s : mG} (h : KQw z s) : pk (F_X12_laysDoors_B45 x1 x2 x3 s) (se (fun τ => KQw z τ.2.2.2) (se (fun τ => KQw z τ.2) (fun τ => KQw z τ))) := by
  unfold F_X12_laysDoors_B45
  refine pk_ite ?_ ?_
  · exact pk_some h
  · refine pk_nn ?_
    refine pk_ite ?_ ?_
    · exact (QQ_X12_laysDoors_161 h)
    · refine pk_nn ?_
      refine pk_b2 (QQ_X12_saysIn h) (fun _ s_1 (h_2 : KQw z s_1) => ?_)
      refine pk_nn ?_
      refine pk_b2 (QQ_X12_saysIn h_2) (fun _ s_3 (h_4 : KQw z s_3) => ?_)
      extract_lets +onlyGivenNames v_5
      clear_value v_5
      refine pk_nn ?_
      refine pk_nn ?_
      extract_lets +onlyGivenNames s_6
      have h_7 : KQw z s_6 := KQw_mu h_4 (Or.inl (by decide))
      clear_value s_6
      extract_lets +onlyGivenNames v_8
      clear_value v_8
      refine pk_nn ?_
      refine pk_nn ?_
      extract_lets +onlyGivenNames s_9
      have h_10 : KQw z s_9 := KQw_mu h_7 (Or.inl (by decide))
      clear_value s_9
      exact (QQ_X12_laysDoors_161 h_10)
theorem QQ_X12_laysDoors_L45 {z : mG} {x1 : Int32} {x2 : Int32} {x3 : Int32} {s : mG} (h : KQw z s) : pk (F_X12_laysDoors_L45 x1 x2 x3 s) (se (fun τ => KQw z τ.2) (fun τ => KQw z τ)) := by
  unfold F_X12_laysDoors_L45
  refine pk_whl (fun v => KQw z v.2.2.2) h (fun v hv => ?_)
  obtain ⟨y0, y1, y2, y3⟩ := v
  exact QQ_X12_laysDoors_B45 hv
theorem QQ_X12_laysDoors_B2 {z : mG} {x1 : Int32} {s : mG} (h : KQw z s) : pk (F_X12_laysDoors_B2 x1 s) (se (fun τ => KQw z τ.2) (fun τ => KQw z τ)) := by
  unfold F_X12_laysDoors_B2
  refine pk_ite ?_ ?_
  · exact pk_some h
  · refine pk_nn ?_
    extract_lets +onlyGivenNames s_1
    have h_2 : KQw z s_1 := KQw_mu h (Or.inl (by decide))
    clear_value s_1
    refine pk_nn ?_
    extract_lets +onlyGivenNames s_3
    have h_4 : KQw z s_3 := KQw_mu h_2 (Or.inl (by decide))
    clear_value s_3
    extract_lets +onlyGivenNames v_5
    clear_value v_5
    exact (QQ_X12_laysDoors_L45 h_4)
theorem QQ_X12_laysDoors_L2 {z : mG} {x1 : Int32} {s : mG} (h : KQw z s) : pk (F_X12_laysDoors_L2 x1 s) (fun τ => KQw z τ) := by
  unfold F_X12_laysDoors_L2
  refine pk_whl (fun v => KQw z v.2) h (fun v hv => ?_)
  obtain ⟨y0, y1⟩ := v
  exact QQ_X12_laysDoors_B2 hv
theorem QQ_X12_laysDoors {z : mG} {s : mG} (h : KQw z s) : pk (F_X12_laysDoors s) (fun τ => KQw z τ) := by
  unfold F_X12_laysDoors
  exact (QQ_X12_laysDoors_L2 h)
theorem QQ_X12_stands_26 {z : mG} {s : mG} (h : KQw z s) : pk (F_X12_stands_26 s) (fun τ => KQw z τ.2) := by
  unfold F_X12_stands_26
  exact pk_some h
theorem QQ_X12_stands_223 {z : mG} {x1 : Int32} {x2 : Int32} {x3 : Int32} {x4 : Int32} {s : mG} (h : KQw z s) : pk (F_X12_stands_223 x1 x2 x3 x4 s) (se (fun τ => KQw z τ.2.2.2.2) (fun τ => KQw z τ.2)) := by
  unfold F_X12_stands_223
  exact pk_some h
theorem QQ_X12_stands_219 {z : mG} {x1 : Int32} {x2 : Int32} {x3 : Int32} {x4 : Int32} {s : mG} (h : KQw z s) : pk (F_X12_stands_219 x1 x2 x3 x4 s) (se (fun τ => KQw z τ.2.2.2.2) (fun τ => KQw z τ.2)) := by
  unfold F_X12_stands_219
  exact (QQ_X12_stands_223 h)
theorem QQ_X12_stands_B161 {z : mG} {x1 : Int32} {x2 : Int32} {x3 : Int32} {x4 : Int32} {s : mG} (h : KQw z s) : pk (F_X12_stands_B161 x1 x2 x3 x4 s) (se (fun τ => KQw z τ.2.2.2.2) (fun τ => KQw z τ.2)) := by
  unfold F_X12_stands_B161
  refine pk_ite ?_ ?_
  · exact pk_some h
  · refine pk_nn ?_
    extract_lets +onlyGivenNames v_1
    clear_value v_1
    refine pk_nn ?_
    extract_lets +onlyGivenNames v_2
    clear_value v_2
    refine pk_ite ?_ ?_
    · exact (QQ_X12_stands_219 h)
    · refine pk_ite ?_ ?_
      · refine pk_ite ?_ ?_
        · exact (QQ_X12_stands_219 h)
        · exact (QQ_X12_stands_223 h)
      · exact (QQ_X12_stands_223 h)
theorem QQ_X12_stands_L161 {z : mG} {x1 : Int32} {x2 : Int32} {x3 : Int32} {x4 : Int32} {s : mG} (h : KQw z s) : pk (F_X12_stands_L161 x1 x2 x3 x4 s) (fun τ => KQw z τ.2) := by
  unfold F_X12_stands_L161
  refine pk_whl (fun v => KQw z v.2.2.2.2) h (fun v hv => ?_)
  obtain ⟨y0, y1, y2, y3, y4⟩ := v
  exact QQ_X12_stands_B161 hv
theorem QQ_X12_stands_157 {z : mG} {x1 : Int32} {x2 : Int32} {y0 : Int32} {s : mG} (h : KQw z s) : pk (F_X12_stands_157 x1 x2 y0 s) (fun τ => KQw z τ.2) := by
  unfold F_X12_stands_157
  exact (QQ_X12_stands_L161 h)
theorem QQ_X12_stands_103 {z : mG} {x1 : Int32} {x2 : Int32} {x3 : Int32} {x4 : Int32} {y1 : Int32} {y2 : Int32} {y3 : Int32} {s : mG} (h : KQw z s) : pk (F_X12_stands_103 x1 x2 x3 x4 y1 y2 y3 s) (se (fun τ => KQw z τ.2.2.2.2) (se (fun τ => KQw z τ.2.2.2) (fun τ => KQw z τ.2))) := by
  unfold F_X12_stands_103
  refine pk_nn ?_
  extract_lets +onlyGivenNames s_1
  have h_2 : KQw z s_1 := KQw_mu h (Or.inl (by decide))
  clear_value s_1
  exact pk_some h_2
theorem QQ_X12_stands_B58 {z : mG} {x1 : Int32} {x2 : Int32} {x3 : Int32} {x4 : Int32} {s : mG} (h : KQw z s) : pk (F_X12_stands_B58 x1 x2 x3 x4 s) (se (fun τ => KQw z τ.2.2.2.2) (se (fun τ => KQw z τ.2.2.2) (fun τ => KQw z τ.2))) := by
  unfold F_X12_stands_B58
  refine pk_ite ?_ ?_
  · exact pk_some h
  · refine pk_nn ?_
    refine pk_ite ?_ ?_
    · exact (QQ_X12_stands_103 h)
    · refine pk_b1 pk_top (fun _ _ => ?_)
      exact (QQ_X12_stands_103 h)
theorem QQ_X12_stands_L58 {z : mG} {x1 : Int32} {x2 : Int32} {x3 : Int32} {x4 : Int32} {s : mG} (h : KQw z s) : pk (F_X12_stands_L58 x1 x2 x3 x4 s) (se (fun τ => KQw z τ.2.2.2) (fun τ => KQw z τ.2)) := by
  unfold F_X12_stands_L58
  refine pk_whl (fun v => KQw z v.2.2.2.2) h (fun v hv => ?_)
  obtain ⟨y0, y1, y2, y3, y4⟩ := v
  exact QQ_X12_stands_B58 hv
theorem QQ_X12_stands_B51 {z : mG} {x1 : Int32} {x2 : Int32} {x3 : Int32} {s : mG} (h : KQw z s) : pk (F_X12_stands_B51 x1 x2 x3 s) (se (fun τ => KQw z τ.2.2.2) (fun τ => KQw z τ.2)) := by
  unfold F_X12_stands_B51
  refine pk_ite ?_ ?_
  · refine pk_ite ?_ ?_
    · refine pk_b1 pk_top (fun _ _ => ?_)
      exact pk_some h
    · refine pk_ite ?_ ?_
      · refine pk_b1r ?_
        exact (QQ_X12_stands_157 h)
      · refine pk_b1r ?_
        exact (QQ_X12_stands_157 h)
  · exact (QQ_X12_stands_L58 h)
theorem QQ_X12_stands_L51 {z : mG} {x1 : Int32} {x2 : Int32} {x3 : Int32} {s : mG} (h : KQw z s) : pk (F_X12_stands_L51 x1 x2 x3 s) (fun τ => KQw z τ.2) := by
  unfold F_X12_stands_L51
  refine pk_whl (fun v => KQw z v.2.2.2) h (fun v hv => ?_)
  obtain ⟨y0, y1, y2, y3⟩ := v
  exact QQ_X12_stands_B51 hv
theorem QQ_X12_stands_28 {z : mG} {x1 : Int32} {x2 : Int32} {s : mG} (h : KQw z s) : pk (F_X12_stands_28 x1 x2 s) (fun τ => KQw z τ.2) := by
  unfold F_X12_stands_28
  refine pk_b1 (QQ_X12_laysDoors h) (fun s_1 (h_2 : KQw z s_1) => ?_)
  extract_lets +onlyGivenNames s_3
  have h_4 : KQw z s_3 := KQw_mu h_2 (Or.inl (by decide))
  clear_value s_3
  extract_lets +onlyGivenNames s_5
  have h_6 : KQw z s_5 := KQw_mu h_4 (Or.inl (by decide))
  clear_value s_5
  exact (QQ_X12_stands_L51 h_6)
theorem QQ_X12_stands {z : mG} {a1 : Int32} {a2 : Int32} {s : mG} (h : KQw z s) : pk (F_X12_stands a1 a2 s) (fun τ => KQw z τ.2) := by
  unfold F_X12_stands
  refine pk_b1 pk_top (fun _ _ => ?_)
  refine pk_ite ?_ ?_
  · exact (QQ_X12_stands_26 h)
  · refine pk_ite ?_ ?_
    · exact (QQ_X12_stands_28 h)
    · refine pk_b1 pk_top (fun _ _ => ?_)
      refine pk_ite ?_ ?_
      · exact (QQ_X12_stands_26 h)
      · exact (QQ_X12_stands_28 h)
theorem QQ_X12_carries_39 {z : mG} {x1 : Int32} {x2 : Int32} {s : mG} (h : KQw z s) : pk (F_X12_carries_39 x1 x2 s) (se (fun τ => KQw z τ.2.2) (fun τ => KQw z τ.2)) := by
  unfold F_X12_carries_39
  exact pk_some h
theorem QQ_X12_carries_37 {z : mG} {x2 : Int32} {s : mG} (h : KQw z s) : pk (F_X12_carries_37 x2 s) (se (fun τ => KQw z τ.2.2) (fun τ => KQw z τ.2)) := by
  unfold F_X12_carries_37
  exact (QQ_X12_carries_39 h)
theorem QQ_X12_carries_B4 {z : mG} {x1 : Int32} {x2 : Int32} {s : mG} (h : KQw z s) : pk (F_X12_carries_B4 x1 x2 s) (se (fun τ => KQw z τ.2.2) (fun τ => KQw z τ.2)) := by
  unfold F_X12_carries_B4
  refine pk_ite ?_ ?_
  · exact pk_some h
  · refine pk_ite ?_ ?_
    · exact (QQ_X12_carries_37 h)
    · refine pk_b2 (QQ_X12_saysNow h) (fun _ s_1 (h_2 : KQw z s_1) => ?_)
      refine pk_b2 (QQ_X12_saysNow h_2) (fun _ s_3 (h_4 : KQw z s_3) => ?_)
      refine pk_ite ?_ ?_
      · exact (QQ_X12_carries_39 h_4)
      · exact (QQ_X12_carries_37 h_4)
theorem QQ_X12_carries_L4 {z : mG} {x1 : Int32} {x2 : Int32} {s : mG} (h : KQw z s) : pk (F_X12_carries_L4 x1 x2 s) (fun τ => KQw z τ.2) := by
  unfold F_X12_carries_L4
  refine pk_whl (fun v => KQw z v.2.2) h (fun v hv => ?_)
  obtain ⟨y0, y1, y2⟩ := v
  exact QQ_X12_carries_B4 hv
theorem QQ_X12_carries {z : mG} {s : mG} (h : KQw z s) : pk (F_X12_carries s) (fun τ => KQw z τ.2) := by
  unfold F_X12_carries
  exact (QQ_X12_carries_L4 h)
theorem QQ_X12_away_29 {z : mG} {s : mG} (h : KQw z s) : pk (F_X12_away_29 s) (fun τ => KQw z τ.2) := by
  unfold F_X12_away_29
  exact pk_some h
theorem QQ_X12_away_B38 {z : mG} {x1 : Int32} {x2 : Int32} {x3 : Int32} {x4 : Int32} {s : mG} (h : KQw z s) : pk (F_X12_away_B38 x1 x2 x3 x4 s) (se (fun τ => KQw z τ.2.2.2.2) (fun τ => KQw z τ.2)) := by
  unfold F_X12_away_B38
  refine pk_ite ?_ ?_
  · exact pk_some h
  · refine pk_nn ?_
    refine pk_b1 pk_top (fun _ _ => ?_)
    refine pk_b2 (QQ_X12_saysIn h) (fun _ s_1 (h_2 : KQw z s_1) => ?_)
    extract_lets +onlyGivenNames v_3
    clear_value v_3
    exact pk_some h_2
theorem QQ_X12_away_L38 {z : mG} {x1 : Int32} {x2 : Int32} {x3 : Int32} {x4 : Int32} {s : mG} (h : KQw z s) : pk (F_X12_away_L38 x1 x2 x3 x4 s) (fun τ => KQw z τ.2) := by
  unfold F_X12_away_L38
  refine pk_whl (fun v => KQw z v.2.2.2.2) h (fun v hv => ?_)
  obtain ⟨y0, y1, y2, y3, y4⟩ := v
  exact QQ_X12_away_B38 hv
theorem QQ_X12_away {z : mG} {a1 : Int32} {a2 : Int32} {s : mG} (h : KQw z s) : pk (F_X12_away a1 a2 s) (fun τ => KQw z τ.2) := by
  unfold F_X12_away
  refine pk_b1 pk_top (fun _ _ => ?_)
  refine pk_ite ?_ ?_
  · exact (QQ_X12_away_29 h)
  · refine pk_nn ?_
    refine pk_ite ?_ ?_
    · exact (QQ_X12_away_29 h)
    · refine pk_b1 pk_top (fun _ _ => ?_)
      refine pk_ite ?_ ?_
      · exact (QQ_X12_away_29 h)
      · exact (QQ_X12_away_L38 h)
theorem QQ_X12_of {z : mG} {a1 : Int32} {a2 : Int32} {s : mG} (h : KQw z s) : pk (F_X12_of a1 a2 s) (fun τ => KQw z τ.2) := by
  unfold F_X12_of
  refine pk_b1 pk_top (fun _ _ => ?_)
  refine pk_ite ?_ ?_
  · exact pk_some h
  · refine pk_ite ?_ ?_
    · refine pk_nn ?_
      extract_lets +onlyGivenNames v_1
      clear_value v_1
      exact pk_some h
    · refine pk_ite ?_ ?_
      · refine pk_nn ?_
        extract_lets +onlyGivenNames v_2
        clear_value v_2
        exact pk_some h
      · refine pk_ite ?_ ?_
        · refine pk_nn ?_
          extract_lets +onlyGivenNames v_3
          clear_value v_3
          exact pk_some h
        · refine pk_ite ?_ ?_
          · refine pk_nn ?_
            extract_lets +onlyGivenNames v_4
            clear_value v_4
            exact pk_some h
          · refine pk_ite ?_ ?_
            · refine pk_nn ?_
              extract_lets +onlyGivenNames v_5
              clear_value v_5
              exact pk_some h
            · refine pk_ite ?_ ?_
              · refine pk_b2 (QQ_X12_sureOf h) (fun _ s_6 (h_7 : KQw z s_6) => ?_)
                exact pk_some h_7
              · refine pk_b1 pk_top (fun _ _ => ?_)
                refine pk_ite ?_ ?_
                · exact pk_some h
                · refine pk_b2 (QQ_X12_saysNow h) (fun _ s_8 (h_9 : KQw z s_8) => ?_)
                  exact pk_some h_9
theorem QQ_X12_image_67 {z : mG} {s : mG} (h : KQw z s) : pk (F_X12_image_67 s) (fun τ => KQw z τ.2) := by
  unfold F_X12_image_67
  extract_lets +onlyGivenNames s_1
  have h_2 : KQw z s_1 := KQw_mu h (Or.inr (by decide))
  clear_value s_1
  exact pk_some h_2
theorem QQ_X12_image_53 {z : mG} {x1 : Int32} {x2 : Int32} {s : mG} (h : KQw z s) : pk (F_X12_image_53 x1 x2 s) (se (fun τ => KQw z τ.2.2) (fun τ => KQw z τ.2)) := by
  unfold F_X12_image_53
  exact pk_some h
theorem QQ_X12_image_B15 {z : mG} {x1 : Int32} {x2 : Int32} {s : mG} (h : KQw z s) : pk (F_X12_image_B15 x1 x2 s) (se (fun τ => KQw z τ.2.2) (fun τ => KQw z τ.2)) := by
  unfold F_X12_image_B15
  refine pk_ite ?_ ?_
  · refine pk_ite ?_ ?_
    · refine pk_b1 (QQ_X12_forgets h) (fun s_1 (h_2 : KQw z s_1) => ?_)
      refine pk_b1r ?_
      exact (QQ_X12_image_67 h_2)
    · refine pk_b1r ?_
      exact (QQ_X12_image_67 h)
  · refine pk_ite ?_ ?_
    · refine pk_nn ?_
      refine pk_nn ?_
      extract_lets +onlyGivenNames s_3
      have h_4 : KQw z s_3 := KQw_mu h (Or.inl (by decide))
      clear_value s_3
      exact (QQ_X12_image_53 h_4)
    · refine pk_nn ?_
      refine pk_nn ?_
      extract_lets +onlyGivenNames s_5
      have h_6 : KQw z s_5 := KQw_mu h (Or.inl (by decide))
      clear_value s_5
      exact (QQ_X12_image_53 h_6)
theorem QQ_X12_image_L15 {z : mG} {x1 : Int32} {x2 : Int32} {s : mG} (h : KQw z s) : pk (F_X12_image_L15 x1 x2 s) (fun τ => KQw z τ.2) := by
  unfold F_X12_image_L15
  refine pk_whl (fun v => KQw z v.2.2) h (fun v hv => ?_)
  obtain ⟨y0, y1, y2⟩ := v
  exact QQ_X12_image_B15 hv
theorem QQ_X12_image_13 {z : mG} {x1 : Int32} {s : mG} (h : KQw z s) : pk (F_X12_image_13 x1 s) (fun τ => KQw z τ.2) := by
  unfold F_X12_image_13
  exact (QQ_X12_image_L15 h)
theorem QQ_X12_image {z : mG} {a1 : Int32} {s : mG} (h : KQw z s) : pk (F_X12_image a1 s) (fun τ => KQw z τ.2) := by
  unfold F_X12_image
  refine pk_ite ?_ ?_
  · refine pk_ite ?_ ?_
    · exact pk_some h
    · exact (QQ_X12_image_13 h)
  · exact (QQ_X12_image_13 h)
end
end
/-! 5w.join -/
section
noncomputable section
/-! WHAT BOTH SIDES SHARE of the tape and its fault -/
def JT (s : mG) : Prop := ∃ l : Nat, l ≤ 400 ∧ s.1 55 9 = cn l ∧ s.1 88 15 = cn l ∧ (∀ k, k < l → s.1 95 k = s.1 64 k ∧ 0 ≤ (s.1 64 k).toInt ∧ (s.1 64 k).toInt ≤ 255) ∧ s.1 55 10 = s.1 88 22 ∧ s.1 55 11 = s.1 88 24
def JL2 (s : mG) : Prop := IC s ∧ IM s ∧ CTs s ∧ JT s
theorem TL_r : ∀ p ∈ TL, (6 ≤ p.1 ∧ p.1 ≤ 13) ∨ (19 ≤ p.1 ∧ p.1 ≤ 34) ∨ (55 ≤ p.1 ∧ p.1 ≤ 67) := by decide
theorem JT_same {s s' : mG} (h : JT s) (e55 : s'.1 55 = s.1 55) (e64 : s'.1 64 = s.1 64) (e95 : s'.1 95 = s.1 95) (q : KQw s s') : JT s' := by
  obtain ⟨l, h1, h2, h3, h4, h5, h6⟩ := h
  unfold JT
  rw [e55, e64, e95, q.1, q.2.1, q.2.2]
  exact ⟨l, h1, h2, h3, h4, h5, h6⟩
theorem JC0 {b : Bool} {s s' : mG} (h : JL2 s) (k : RC b s s') (c : CTs s') (e55 : s'.1 55 = s.1 55) (e64 : s'.1 64 = s.1 64) : JL2 s' := by
  have e88 := k.2.1 88 (by decide)
  exact ⟨k.1, IM_rows k.2.1 h.2.1, c, JT_same h.2.2.2 e55 e64 (k.2.1 95 (by decide)) ⟨congrFun e88 15, congrFun e88 22, congrFun e88 24⟩⟩
theorem JC2 {b : Bool} {s s' : mG} (h : JL2 s) (k : RC b s s') (r1 : ∀ j, 6 ≤ j → j < 6 + 8 → s'.1 j = s.1 j) (r2 : ∀ j, 19 ≤ j → j < 19 + 16 → s'.1 j = s.1 j) (r3 : ∀ j, 55 ≤ j → j < 55 + 13 → s'.1 j = s.1 j) : JL2 s' :=
  JC0 h k (CT_rows h.2.2.1 (fun p hp => (TL_r p hp).elim (fun e => r1 p.1 e.1 (by omega)) (fun e => e.elim (fun e => r2 p.1 e.1 (by omega)) (fun e => r3 p.1 e.1 (by omega))))) (r3 55 (by decide) (by decide)) (r3 64 (by decide) (by decide))
theorem JM2 {s s' : mG} (h : JL2 s) (hI : IM s') (low : ∀ j, j < 88 → s'.1 j = s.1 j) (q : KQw s s') (e95 : s'.1 95 = s.1 95) : JL2 s' :=
  ⟨IC_rows low h.1, hI, CT_rows h.2.2.1 (fun p hp => low p.1 (by have := TL_r p hp; omega)), JT_same h.2.2.2 (low 55 (by decide)) (low 64 (by decide)) e95 q⟩
theorem CT_RS {s : mG} (h : CTs s) : RS0 s :=
  ⟨(h (65, 3, 401) (by decide)).1, (h (65, 3, 401) (by decide)).2.1, (h (56, 4, 16) (by decide)).1, (h (56, 4, 16) (by decide)).2.1, (h (58, 1, 400) (by decide)).1, (h (58, 1, 400) (by decide)).2.1, (h (60, 2, 6) (by decide)).1, (h (60, 2, 6) (by decide)).2.1, (h (62, 4, 12) (by decide)).1, (h (62, 4, 12) (by decide)).2.1⟩
theorem P2_text {a1 : Int32} {s : mG} (h : JL2 s) : ok (F_X11_text a1 s) (fun τ => ok (F_X12_text a1 τ.2) (fun υ => JL2 υ.2 ∧ τ.1 = υ.1)) := by
  obtain ⟨hI, hM, hC, l, h1, h2, h3, h4, h5, h6⟩ := h
  obtain ⟨τ, e1, k1, k2⟩ := T_X11_text (a1 := a1) hI
  obtain ⟨υ, e2, m1, m2⟩ := T_X12_text (a1 := a1) (IM_rows k1.2.1 hM)
  have r := S_text (T := s.1 64) (len := l) (a1 := a1) (a := s) (b := τ.2) h1 (fun k hk => (h4 k hk).2) rfl h2 (CT_RS hC) (hC (6, 4, 16) (by decide)) (hC (8, 1, 400) (by decide)) (hC (10, 2, 6) (by decide)) (hC (12, 4, 12) (by decide)) (fun k hk => by rw [k1.2.1 95 (by decide)]; exact (h4 k hk).1) (by rw [k1.2.1 88 (by decide)]; exact h3) τ e1 υ e2
  obtain ⟨r1, r2, r3, r4, r5⟩ := r
  have z := Z_X11_text hC τ e1
  have low := m1.2.1
  refine ⟨τ, e1, υ, e2, ⟨IC_rows low k1.1, m1.1, CT_rows z (fun p hp => low p.1 (by have := TL_r p hp; omega)), 0, by omega, ?_, ?_, fun k hk => absurd hk (by omega), ?_, ?_⟩, r1⟩
  · rw [low 55 (by decide)]; exact r2
  · exact r3
  · rw [low 55 (by decide)]; exact r4
  · rw [low 55 (by decide)]; exact r5
theorem P2_feed {a1 a2 a3 a4 a5 : Int32} {s : mG} (h : JL2 s) : ok (F_X11_feed a1 a2 a3 a4 a5 s) (fun τ => ok (F_X12_feed a1 a2 a3 a4 a5 τ.2) (fun υ => JL2 υ.2 ∧ True)) := by
  obtain ⟨hI, hM, hC, l, h1, h2, h3, h4, h5, h6⟩ := h
  obtain ⟨τ, e1, k1, _⟩ := T_X11_feed (a1 := a1) (a2 := a2) (a3 := a3) (a4 := a4) (a5 := a5) hI
  obtain ⟨υ, e2, m1, _⟩ := T_X12_feed (a1 := a1) (a2 := a2) (a3 := a3) (a4 := a4) (a5 := a5) (IM_rows k1.2.1 hM)
  have low := m1.2.1
  have e88 := k1.2.1 88 (by decide)
  have e95 := k1.2.1 95 (by decide)
  have t15 : τ.2.1 88 15 = cn l := by rw [e88]; exact h3
  have c := V_feedC h2 h1 τ e1
  have d := V_feedR t15 h1 υ e2
  refine ⟨τ, e1, υ, e2, ?_, trivial⟩
  rcases c with ⟨c0, c1, c2, c3, c4, c5⟩ | ⟨c0, c1⟩
  · rcases d with ⟨_, d1, d2, d3, d4, d5⟩ | ⟨d0, _⟩
    · refine ⟨IC_rows low k1.1, m1.1, CT_rows hC (fun p hp => (low p.1 (by have := TL_r p hp; omega)).trans (c2 p.1 (by revert p; decide) (by revert p; decide))), l + 20, c0, ?_, d1, fun k hk => ?_, ?_, ?_⟩
      · rw [low 55 (by decide)]; exact c1
      · rw [low 64 (by decide)]
        by_cases hl : k < l
        · rw [d4 k hl, e95, c4 k hl]; exact h4 k hl
        · have ek : k = l + (k - l) := by omega
          rw [ek, d5 (k - l) (by omega), c5 (k - l) (by omega)]
          exact ⟨rfl, bt_b⟩
      · rw [low 55 (by decide), c3 10 (by decide), d3 22 (by decide), e88]; exact h5
      · rw [low 55 (by decide), c3 11 (by decide), d3 24 (by decide), e88]; exact h6
    · exact absurd c0 d0
  · rcases d with ⟨d0, _⟩ | ⟨_, d1⟩
    · exact absurd d0 c0
    · rw [d1, c1]
      exact ⟨hI, hM, hC, l, h1, h2, h3, h4, h5, h6⟩
theorem P2_end {a1 : Int32} {s : mG} (h : JL2 s) : ok (F_X11_end a1 s) (fun τ => ok (F_X12_end a1 τ.2) (fun υ => JL2 υ.2 ∧ True)) := by
  obtain ⟨hI, hM, hC, l, h1, h2, h3, h4, h5, h6⟩ := h
  obtain ⟨τ, e1, k1, _⟩ := T_X11_end (a1 := a1) hI
  obtain ⟨υ, e2, m1, _⟩ := T_X12_end (a1 := a1) (IM_rows k1.2.1 hM)
  refine ⟨τ, e1, υ, e2, ?_, trivial⟩
  have low := m1.2.1
  have e88 := k1.2.1 88 (by decide)
  have c := e1
  have d := e2
  rw [V_endC, h2] at c
  rw [V_endR, e88, h3] at d
  by_cases q : wi a1 (ci 0) (cn l) = 0
  · rw [if_pos q] at c d
    have c := Option.some.inj c
    have d := Option.some.inj d
    rw [← d]
    show JL2 τ.2
    rw [← c]
    exact ⟨hI, hM, hC, l, h1, h2, h3, h4, h5, h6⟩
  · rw [if_neg q] at c d
    obtain ⟨m, hm, em⟩ := wi_cn (by omega) q
    have c := Option.some.inj c
    have d := Option.some.inj d
    have c2 : τ.2 = (mu s.1 55 9 a1, s.2) := by rw [← c]
    have d2 : υ.2 = (mu τ.2.1 88 15 a1, τ.2.2) := by rw [← d]
    have row : ∀ j, j ≠ 55 → j ≠ 88 → υ.2.1 j = s.1 j := fun j h1 h2 => by
      rw [d2]
      refine (mu_rowQ h2).trans ?_
      rw [c2]
      exact mu_rowQ h1
    have c55 : ∀ k, k ≠ 9 → υ.2.1 55 k = s.1 55 k := fun k hk => by
      rw [d2]
      refine (congrFun (mu_rowQ (by decide)) k).trans ?_
      rw [c2]
      exact mu_cellQ (Or.inr hk)
    have c88 : ∀ k, k ≠ 15 → υ.2.1 88 k = s.1 88 k := fun k hk => by
      rw [d2]
      refine (mu_cellQ (Or.inr hk)).trans ?_
      rw [c2]
      exact congrFun (mu_rowQ (by decide)) k
    refine ⟨IC_rows low k1.1, m1.1, ?_, m, by omega, ?_, ?_, fun k hk => ?_, ?_, ?_⟩
    · exact CT_rows hC (fun p hp => row p.1 (by revert p; decide) (by revert p; decide))
    · rw [low 55 (by decide), c2]
      exact mu_sameQ.trans em
    · rw [d2]
      exact mu_sameQ.trans em
    · rw [row 95 (by decide) (by decide), row 64 (by decide) (by decide)]
      exact h4 k (by omega)
    · rw [c55 10 (by decide), c88 22 (by decide)]; exact h5
    · rw [c55 11 (by decide), c88 24 (by decide)]; exact h6
/-! fault -/
def fa (s : mG) (a : Int32) : Int32 := if a = 0 then s.1 55 10 else if a = ci 1 then s.1 55 11 else ci (-1)
theorem A_X11_fault {a1 : Int32} {s : mG} : ok (F_X11_fault s a1) (fun v => v = fa s a1) := by
  unfold F_X11_fault fa
  refine ok_ite (fun c => ?_) (fun c => ?_)
  · exact ok_some (if_pos c).symm
  refine ok_ite (fun c2 => ?_) (fun c2 => ?_)
  · exact ok_some (by rw [if_neg c, if_pos c2])
  · exact ok_some (by rw [if_neg c, if_neg c2])
theorem A_X12_fault {a1 : Int32} {s : mG} (h : JL2 s) : ok (F_X12_fault s a1) (fun v => v = fa s a1) := by
  obtain ⟨hI, hM, hC, l, h1, h2, h3, h4, h5, h6⟩ := h
  unfold F_X12_fault fa
  refine ok_ite (fun c => ?_) (fun c => ?_)
  · exact ok_some (by rw [if_pos c, h5])
  refine ok_ite (fun c2 => ?_) (fun c2 => ?_)
  · exact ok_some (by rw [if_neg c, if_pos c2, h6])
  · exact ok_some (by rw [if_neg c, if_neg c2])
/-! the start -/
theorem s0_tl : ∀ p ∈ TL, s0.1 p.1 0 = cn p.2.2 ∧ s0.1 p.1 1 = cn p.2.1 ∧ s0.1 p.1 3 = 0 := s0_b1
theorem s0_fa : s0.1 55 10 = s0.1 88 22 ∧ s0.1 55 11 = s0.1 88 24 := s0_b2
theorem s0_ln : s0.1 55 9 = cn 0 ∧ s0.1 88 15 = cn 0 := s0_b3
theorem cn_z : (0 : Int32) = cn 0 := by decide
theorem CT_s0 : CTs s0 := fun p hp => ⟨(s0_tl p hp).1, (s0_tl p hp).2.1, 0, Nat.zero_le _, (s0_tl p hp).2.2.trans cn_z⟩
theorem JT_s0 : JT s0 := ⟨0, by omega, s0_ln.1, s0_ln.2, fun k hk => absurd hk (by omega), s0_fa.1, s0_fa.2⟩
end
end
/-! 5x1.types -/
section
noncomputable section
/-! WHAT THE CODE OF A LAW PUSHES: numbers or truths, and never more than 64 -/
def opT (k : Int32) (x y : Bool) : Bool := if 27 ≤ k.toInt ∧ k.toInt ≤ 29 then true else if k.toInt = 31 ∨ k.toInt = 32 then (x && y) else false
def stpT (k v : Int32) (ts : List Bool) : Option (List Bool) :=
  if k.toInt < 23 then (if 0 ≤ k.toInt ∧ k.toInt < 10 ∧ ts.length < 64 then some (false :: ts) else none)
  else if k.toInt = 26 then (match ts with
    | _ :: r => if v = 0 then none else some (false :: r)
    | [] => none)
  else if k.toInt = 30 then (match ts with
    | x :: r => some (x :: r)
    | [] => none)
  else match ts with
    | x :: y :: r => some (opT k x y :: r)
    | _ => none
def Rt (c : Nat → Int32) : Nat → Nat → List Bool → List Bool → Prop
  | _, 0, h, h' => h = h'
  | k, n + 1, h, h' => ∃ m, stpT (c (2 * k)) (c (2 * k + 1)) h = some m ∧ Rt c (k + 1) n m h'
theorem Rt_congr {c c' : Nat → Int32} : ∀ (n k : Nat) (h h' : List Bool), (∀ j, 2 * k ≤ j → j < 2 * (k + n) → c' j = c j) → Rt c k n h h' → Rt c' k n h h' := by
  intro n
  induction n with
  | zero => intro k h h' _ q; exact q
  | succ n ih =>
    intro k h h' hc q
    obtain ⟨m, q1, q2⟩ := q
    exact ⟨m, by rw [hc _ (by omega) (by omega), hc _ (by omega) (by omega)]; exact q1, ih (k + 1) m h' (fun j h1 h2 => hc j (by omega) (by omega)) q2⟩
theorem Rt_trans {c : Nat → Int32} : ∀ (n k m : Nat) (h h' h2 : List Bool), Rt c k n h h' → Rt c (k + n) m h' h2 → Rt c k (n + m) h h2 := by
  intro n
  induction n with
  | zero => intro k m h h' h2 q1 q2; cases (show h = h' from q1); rw [Nat.zero_add]; exact q2
  | succ n ih =>
    intro k m h h' h2 q1 q2
    obtain ⟨i, q1, q3⟩ := q1
    rw [show n + 1 + m = (n + m) + 1 by omega]
    exact ⟨i, q1, ih (k + 1) m i h' h2 q3 (by rw [show k + 1 + n = k + (n + 1) by omega]; exact q2)⟩
theorem tp_push {k v : Int32} (h0 : 0 ≤ k.toInt ∧ k.toInt < 10) (ts : List Bool) (hl : ts.length < 64) : stpT k v ts = some (false :: ts) := by
  unfold stpT
  rw [if_pos (by omega), if_pos ⟨h0.1, h0.2, hl⟩]
theorem tp_bin {k v : Int32} {x y : Bool} (h1 : 23 ≤ k.toInt) (h2 : k.toInt ≠ 26) (h3 : k.toInt ≠ 30) (ts : List Bool) : stpT k v (x :: y :: ts) = some (opT k x y :: ts) := by
  unfold stpT
  rw [if_neg (by omega), if_neg h2, if_neg h3]
theorem tp_part {v : Int32} {x : Bool} (hv : v ≠ 0) (ts : List Bool) : stpT (c8 26) v (x :: ts) = some (false :: ts) := by
  have e : (c8 26).toInt = 26 := by decide
  unfold stpT
  rw [e, if_neg (by decide), if_pos rfl]
  dsimp only
  rw [if_neg hv]
theorem tp_not {v : Int32} {x : Bool} (ts : List Bool) : stpT (c8 30) v (x :: ts) = some (x :: ts) := by
  have e : (c8 30).toInt = 30 := by decide
  unfold stpT
  rw [e, if_neg (by decide), if_neg (by decide), if_pos rfl]
/-- a piece of code that pushes d, and at most e at a time -/
def HT (s s' : mG) (d : List Bool) (e : Nat) (σ : Int) : Prop := HH s s' d.length σ ∧ ∀ ts : List Bool, ts.length + e ≤ 64 → Rt (s'.1 93) (s.1 88 13).toInt.toNat ((s'.1 88 13).toInt - (s.1 88 13).toInt).toNat ts (d ++ ts)
theorem HT_refl {s : mG} (h : PI s) (h0 : 0 ≤ (s.1 88 13).toInt) : HT s s [] 0 0 := ⟨HH_refl h h0, fun ts _ => by rw [Int.sub_self]; rfl⟩
theorem HT_weak {s s' : mG} {d : List Bool} {e e' : Nat} {σ σ' : Int} (h : HT s s' d e σ) (hs : σ' ≤ σ) (he : e ≤ e') : HT s s' d e' σ' := ⟨HH_weak h.1 hs, fun ts hl => h.2 ts (by omega)⟩
theorem HT_nx' {s s1 s2 : mG} {d : List Bool} {e : Nat} {σ σ' : Int} (h : HT s s1 d e σ) (k : NX s1 s2) (hh : HH s s2 d.length σ') : HT s s2 d e σ' := by
  have e13 : s2.1 88 13 = s1.1 88 13 := k.1.2 13 (by decide) (by decide) (by decide) (by decide)
  have e93 : s2.1 93 = s1.1 93 := k.1.1 93 (by decide)
  refine ⟨hh, ?_⟩
  rw [e93, e13]; exact h.2
theorem HT_nx0 {s s1 s2 : mG} {d : List Bool} {e : Nat} {σ : Int} (h : HT s s1 d e σ) (k : NX s1 s2) : HT s s2 d e σ := HT_nx' h k (HH_nx0 h.1 k)
theorem HT_nx1 {s s1 s2 : mG} {d : List Bool} {e : Nat} {σ : Int} (h : HT s s1 d e σ) (k : NX s1 s2) (ht : s1.1 88 17 ≠ 0) : HT s s2 d e (σ + 1) := HT_nx' h k (HH_nx1 h.1 k ht)
theorem HT_tr {s s1 s2 : mG} {a b : List Bool} {e e2 E : Nat} {σ τ : Int} (h : HT s s1 a e σ) (k : HT s1 s2 b e2 τ) (h1 : e ≤ E) (h2 : a.length + e2 ≤ E) : HT s s2 (b ++ a) E (σ + τ) := by
  refine ⟨?_, fun ts hl => ?_⟩
  · rw [List.length_append, Nat.add_comm]; exact HH_tr h.1 k.1
  · obtain ⟨q0, q1, q2, q3, q4, q5, q6, q7⟩ := h.1
    obtain ⟨w0, w1, w2, w3, w4, w5, w6, w7⟩ := k.1
    have r1 := Rt_congr _ _ _ _ (fun j _ hj => w6 j (by omega)) (h.2 ts (by omega))
    have r2 := k.2 (a ++ ts) (by rw [List.length_append]; omega)
    rw [show (s1.1 88 13).toInt.toNat = (s.1 88 13).toInt.toNat + ((s1.1 88 13).toInt - (s.1 88 13).toInt).toNat by omega] at r2
    have r3 := Rt_trans _ _ _ _ _ _ r1 r2
    rw [show ((s1.1 88 13).toInt - (s.1 88 13).toInt).toNat + ((s2.1 88 13).toInt - (s1.1 88 13).toInt).toNat = ((s2.1 88 13).toInt - (s.1 88 13).toInt).toNat by omega] at r3
    rw [List.append_assoc]
    exact r3
theorem HT_lay {s s1 s2 : mG} {k v : Int32} {a b : List Bool} {e E : Nat} {σ : Int} (h : HT s s1 a e σ) (l : LY s1 s2 k v) (hv : ∀ h, stpv k v (h + a.length) = some (h + b.length)) (hs : ∀ ts : List Bool, ts.length + E ≤ 64 → stpT k v (a ++ ts) = some (b ++ ts)) (he : e ≤ E) : HT s s2 b E (σ - 1) := by
  refine ⟨HH_lay h.1 l hv, fun ts hl => ?_⟩
  obtain ⟨q0, q1, q2, q3, q4, q5, q6, q7⟩ := h.1
  obtain ⟨l1, l2, l3, l4, l5, l6⟩ := l
  have r1 := Rt_congr (c' := s2.1 93) _ _ _ _ (fun j _ hj => l6 j (by omega) (by omega)) (h.2 ts (by omega))
  have r2 : Rt (s2.1 93) ((s.1 88 13).toInt.toNat + ((s1.1 88 13).toInt - (s.1 88 13).toInt).toNat) 1 (a ++ ts) (b ++ ts) := by
    rw [show (s.1 88 13).toInt.toNat + ((s1.1 88 13).toInt - (s.1 88 13).toInt).toNat = (s1.1 88 13).toInt.toNat by omega]
    refine ⟨b ++ ts, ?_, rfl⟩
    rw [l4, l5]
    exact hs ts hl
  have r3 := Rt_trans _ _ _ _ _ _ r1 r2
  rw [show ((s1.1 88 13).toInt - (s.1 88 13).toInt).toNat + 1 = ((s2.1 88 13).toInt - (s.1 88 13).toInt).toNat by omega] at r3
  exact r3
theorem HT_23 {s s1 : mG} {d : List Bool} {e : Nat} {σ : Int} {v : Int32} (h : HT s s1 d e σ) : HT s (mu s1.1 88 23 v, s1.2) d e σ := by
  refine ⟨HH_23 h.1, ?_⟩
  rw [show (mu s1.1 88 23 v, s1.2).1 93 = s1.1 93 from mu_rowP (by decide), show (mu s1.1 88 23 v, s1.2).1 88 13 = s1.1 88 13 from mu_cellP (Or.inr (by decide))]
  exact h.2
def POT (s : mG) (b : Bool) (e : Nat) (τ : Int32 × mG) : Prop := PB τ.1 ∧ RE s τ.2 ∧ (¬ τ.1 = 0 → HT s τ.2 [b] e 0 ∧ τ.2.1 88 23 = s.1 88 23)
theorem POT_no {s s' : mG} {b : Bool} {e : Nat} (h : RE s s') : POT s b e (ci 0, s') := ⟨pb0, h, fun q => absurd z0 q⟩
theorem bad_POT {a1 : Int32} {s0 s : mG} {b : Bool} {e : Nat} (h : RE s0 s) : ok (b2 (F_X12_bad a1 s) fun v s' => if v = 0 ∨ v = 1 then some (v, s') else none) (POT s0 b e) := by
  refine ok_b2 T_X12_bad (fun v s' hq => ?_)
  have hv : v = ci 0 := hq.1
  have hr : RE s s' := hq.2
  subst hv
  rw [if_pos (show ci 0 = 0 ∨ ci 0 = 1 from pb0)]
  exact ok_some (POT_no (RE_tr h hr))
theorem bad_lpT {a1 : Int32} {s0 s : mG} {b : Bool} {e : Nat} {P : mG → Prop} {μ : mG → Nat} {n : Nat} (h : RE s0 s) : ok (b2 (F_X12_bad a1 s) fun v s' => if v = 0 ∨ v = 1 then some (Sum.inr (v, s')) else none) (lpost P μ n (POT s0 b e)) := by
  refine ok_b2 T_X12_bad (fun v s' hq => ?_)
  have hv : v = ci 0 := hq.1
  have hr : RE s s' := hq.2
  subst hv
  rw [if_pos (show ci 0 = 0 ∨ ci 0 = 1 from pb0)]
  exact ok_some (lp_inr (POT_no (RE_tr h hr)))
theorem TT_unit_46 {y1 : Int32} {s : mG} (h : PE s) (ht : s.1 88 17 ≠ 0) (hy : 0 ≤ y1.toInt ∧ y1.toInt < 10) : ok (F_X12_unit_46 y1 s) (POT s false 1) := by
  unfold F_X12_unit_46
  have h0 := HT_refl h.1 h.2.1
  have b := HH_st h0.1 (by decide) h
  refine ok_b1 (T_X12_lay b.1 b.2) (fun s6 l6 => ?_)
  have h6 : HT s s6 [false] 1 (0 - 1) := HT_lay h0 l6 (stp_push hy) (fun ts hl => tp_push hy ts (by omega)) (by omega)
  refine ok_b1 (T_X12_next0 (PI_P0 h6.1.2.2.1)) (fun s8 h8 => ?_)
  have g8 : HT s s8 [false] 1 (0 - 1 + 1) := HT_nx1 h6 h8 (by rw [l6.2.1 17 (by decide)]; exact ht)
  refine ok_some ⟨pb1, g8.1.2.1, fun _ => ⟨HT_weak g8 (by omega) (by omega), ?_⟩⟩
  exact (h8.1.2 23 (by decide) (by decide) (by decide) (by decide)).trans (l6.2.1 23 (by decide))
theorem TT_unit {s : mG} (h : PE s) : ok (F_X12_unit s) (POT s false 1) := by
  unfold F_X12_unit F_X12_unit_30
  rw [F_isIn, b1_some]
  have b1 : ¬ wi (s.1 88 17) (c8 41) (c8 49) = 0 → 41 ≤ (s.1 88 17).toInt ∧ (s.1 88 17).toInt ≤ 49 := fun q => isin_f (a := s.1 88 17) (by decide : (c8 41).toInt = 41) (by decide : (c8 49).toInt = 49) (wi_f q)
  have nz : ∀ {n : Int}, (s.1 88 17).toInt = n → n ≠ 0 → s.1 88 17 ≠ 0 := fun e hn q => by rw [q, t_zero] at e; exact hn e.symm
  refine ok_ite (fun c => ?_) (fun c => ?_)
  · have e2 : (s.1 88 17).toInt = 2 := by rw [c]; decide
    refine ok_ite (fun _ => ?_) (fun q => ?_)
    · exact TT_unit_46 h (nz e2 (by decide)) (by rw [show (ci 0).toInt = 0 by decide]; omega)
    · have := b1 q
      omega
  · refine ok_ite (fun _ => bad_POT RE_refl) (fun q => ?_)
    have b2 := b1 q
    refine ok_ite (fun w => absurd w q) (fun _ => ?_)
    exact TT_unit_46 h (nz rfl (by omega)) (by rw [r_sub (rfl : (s.1 88 17).toInt = _) (by decide : (c8 40).toInt = 40) (by omega) (by omega)]; omega)
/-- a state of a loop over factors, terms, tests -/
def LQT (s : mG) (b : Bool) (e : Nat) (v : mG) : Prop := HT s v [b] e 0 ∧ v.1 88 23 = s.1 88 23
theorem TT_prod_44 {y0 : Int32} {s s1 : mG} (h : PE s) (h1 : LQT s false 2 s1) (ht : s1.1 88 17 ≠ 0) : ok (F_X12_product_44 y0 s1) (lpost (LQT s false 2) (fun v => mUp (v.1 88 18)) (mUp (s1.1 88 18)) (POT s false 2)) := by
  unfold F_X12_product_44 F_X12_product_112
  refine ok_b1 (T_X12_next0 (PI_P0 h1.1.1.2.2.1)) (fun s8 h8 => ?_)
  have g8 : HT s s8 [false] 2 (0 + 1) := HT_nx1 h1.1 h8 ht
  have p8 : PE s8 := HH_PE g8.1 (by decide) h
  have d8 : s8.1 88 23 = s.1 88 23 := (h8.1.2 23 (by decide) (by decide) (by decide) (by decide)).trans h1.2
  refine ok_ite (fun _ => ?_) (fun _ => ?_)
  · refine ok_b2 (TT_unit p8) (fun v12 s11 hq => ?_)
    have h11 : POT s8 false 1 (v12, s11) := hq
    clear hq
    refine ok_ite (fun _ => ok_some (lp_inr (POT_no (RE_tr g8.1.2.1 h11.2.1)))) (fun c => ?_)
    have k11 := h11.2.2 c
    have g11 : HT s s11 [false, false] 2 (0 + 1 + 0) := HT_tr g8 k11.1 (by decide) (by decide)
    have b := HH_st g11.1 (by decide) h
    refine ok_b1 (T_X12_lay b.1 b.2) (fun s15 l15 => ?_)
    have g15 : HT s s15 [false] 2 _ := HT_lay g11 l15 (stp_bin (by decide) (by decide) (by decide)) (fun ts _ => tp_bin (by decide) (by decide) (by decide) ts) (by decide)
    exact ok_some (lp_inl ⟨HT_weak g15 (by decide) (by decide), (l15.2.1 23 (by decide)).trans (k11.2.trans d8)⟩ (LQ_m ht h1.1.1.2.2.1 h8 k11.1.1.2.2.2.2.2.1 l15))
  · refine ok_ite (fun c => ?_) (fun _ => bad_lpT g8.1.2.1)
    refine ok_ite (fun _ => bad_lpT g8.1.2.1) (fun cv => ?_)
    refine ok_b1 (T_X12_next0 (PI_P0 g8.1.2.2.1)) (fun s23 h23 => ?_)
    have g23 : HT s s23 [false] 2 (0 + 1 + 1) := HT_nx1 g8 h23 (tok_ne c (by decide))
    have b := HH_st g23.1 (by decide) h
    refine ok_b1 (T_X12_lay b.1 b.2) (fun s25 l25 => ?_)
    have g25 : HT s s25 [false] 2 _ := HT_lay g23 l25 (stp_part cv) (fun ts _ => tp_part cv ts) (by decide)
    have m1 : (s8.1 88 18).toInt ≤ (s23.1 88 18).toInt := by have := g8.1.2.2.1.2.2.1; have := h23.2.2; omega
    exact ok_some (lp_inl ⟨HT_weak g25 (by decide) (by decide), (l25.2.1 23 (by decide)).trans ((h23.1.2 23 (by decide) (by decide) (by decide) (by decide)).trans d8)⟩ (LQ_m ht h1.1.1.2.2.1 h8 m1 l25))
theorem TT_product {s : mG} (h : PE s) : ok (F_X12_product s) (POT s false 2) := by
  unfold F_X12_product
  refine ok_b2 (TT_unit h) (fun v3 s2 hq => ?_)
  have h2 : POT s false 1 (v3, s2) := hq
  clear hq
  refine ok_ite (fun _ => ok_some (POT_no h2.2.1)) (fun c => ?_)
  unfold F_X12_product_L9
  refine ok_whl (LQT s false 2) (fun v => mUp (v.1 88 18)) ⟨HT_weak (h2.2.2 c).1 (by decide) (by decide), (h2.2.2 c).2⟩ (fun s1 h1 => ?_)
  show ok (F_X12_product_B9 s1) _
  unfold F_X12_product_B9 F_X12_product_29
  have go : s1.1 88 17 ≠ 0 → ∀ y, ok (F_X12_product_44 y s1) (lpost (LQT s false 2) (fun v => mUp (v.1 88 18)) (mUp (s1.1 88 18)) (POT s false 2)) := fun ht y => TT_prod_44 h h1 ht
  refine ok_ite (fun c => ?_) (fun _ => ok_ite (fun c => ?_) (fun _ => ?_))
  · exact ok_ite (fun _ => go (tok_ne c (by decide)) _) (fun _ => go (tok_ne c (by decide)) _)
  · exact ok_ite (fun _ => go (tok_ne c (by decide)) _) (fun _ => go (tok_ne c (by decide)) _)
  · exact ok_some (lp_inr ⟨pb1, h1.1.1.2.1, fun _ => h1⟩)
theorem TT_sum_46 {y0 : Int32} {s s1 : mG} (h : PE s) (h1 : LQT s false 3 s1) (ht : s1.1 88 17 ≠ 0) (hy : y0 = c8 23 ∨ y0 = c8 24) : ok (F_X12_sumUp_46 y0 s1) (lpost (LQT s false 3) (fun v => mUp (v.1 88 18)) (mUp (s1.1 88 18)) (POT s false 3)) := by
  unfold F_X12_sumUp_46
  refine ok_b1 (T_X12_next0 (PI_P0 h1.1.1.2.2.1)) (fun s8 h8 => ?_)
  have g8 : HT s s8 [false] 3 (0 + 1) := HT_nx1 h1.1 h8 ht
  have p8 : PE s8 := HH_PE g8.1 (by decide) h
  have d8 : s8.1 88 23 = s.1 88 23 := (h8.1.2 23 (by decide) (by decide) (by decide) (by decide)).trans h1.2
  refine ok_b2 (TT_product p8) (fun v12 s11 hq => ?_)
  have h11 : POT s8 false 2 (v12, s11) := hq
  clear hq
  refine ok_ite (fun _ => ok_some (lp_inr (POT_no (RE_tr g8.1.2.1 h11.2.1)))) (fun c => ?_)
  have k11 := h11.2.2 c
  have g11 : HT s s11 [false, false] 3 (0 + 1 + 0) := HT_tr g8 k11.1 (by decide) (by decide)
  have b := HH_st g11.1 (by decide) h
  refine ok_b1 (T_X12_lay b.1 b.2) (fun s15 l15 => ?_)
  have hs : ∀ h, stpv y0 (ci 0) (h + 2) = some (h + 1) := by
    rcases hy with e | e
    · rw [e]; exact stp_bin (by decide) (by decide) (by decide)
    · rw [e]; exact stp_bin (by decide) (by decide) (by decide)
  have ht2 : ∀ ts : List Bool, stpT y0 (ci 0) (false :: false :: ts) = some (false :: ts) := by
    rcases hy with e | e
    · rw [e]; exact fun ts => tp_bin (by decide) (by decide) (by decide) ts
    · rw [e]; exact fun ts => tp_bin (by decide) (by decide) (by decide) ts
  have g15 : HT s s15 [false] 3 _ := HT_lay g11 l15 hs (fun ts _ => ht2 ts) (by decide)
  exact ok_some (lp_inl ⟨HT_weak g15 (by decide) (by decide), (l15.2.1 23 (by decide)).trans (k11.2.trans d8)⟩ (LQ_m ht h1.1.1.2.2.1 h8 k11.1.1.2.2.2.2.2.1 l15))
theorem TT_sumUp {s : mG} (h : PE s) : ok (F_X12_sumUp s) (POT s false 3) := by
  unfold F_X12_sumUp
  refine ok_b2 (TT_product h) (fun v3 s2 hq => ?_)
  have h2 : POT s false 2 (v3, s2) := hq
  clear hq
  refine ok_ite (fun _ => ok_some (POT_no h2.2.1)) (fun c => ?_)
  unfold F_X12_sumUp_L9
  refine ok_whl (LQT s false 3) (fun v => mUp (v.1 88 18)) ⟨HT_weak (h2.2.2 c).1 (by decide) (by decide), (h2.2.2 c).2⟩ (fun s1 h1 => ?_)
  show ok (F_X12_sumUp_B9 s1) _
  unfold F_X12_sumUp_B9 F_X12_sumUp_29
  refine ok_ite (fun c => ?_) (fun _ => ok_ite (fun c => ?_) (fun _ => ?_))
  · exact ok_ite (fun _ => TT_sum_46 h h1 (tok_ne c (by decide)) (Or.inl rfl)) (fun _ => TT_sum_46 h h1 (tok_ne c (by decide)) (Or.inr rfl))
  · exact ok_ite (fun _ => TT_sum_46 h h1 (tok_ne c (by decide)) (Or.inl rfl)) (fun _ => TT_sum_46 h h1 (tok_ne c (by decide)) (Or.inr rfl))
  · exact ok_some (lp_inr ⟨pb1, h1.1.1.2.1, fun _ => h1⟩)
theorem TT_every {rec : mG → Option (Int32 × mG)} {s : mG} {e : Nat} (h : PE s) (hrec : ∀ s', PE s' → s'.1 88 23 = s.1 88 23 → ok (rec s') (POT s' true e)) : ok (F_X12_every rec s) (POT s true (e + 1)) := by
  unfold F_X12_every
  refine ok_b2 (hrec s h rfl) (fun v3 s2 hq => ?_)
  have h2 : POT s true e (v3, s2) := hq
  clear hq
  refine ok_ite (fun _ => ok_some (POT_no h2.2.1)) (fun c => ?_)
  unfold F_X12_every_L9
  refine ok_whl (LQT s true (e + 1)) (fun v => mUp (v.1 88 18)) ⟨HT_weak (h2.2.2 c).1 (by decide) (by omega), (h2.2.2 c).2⟩ (fun s1 h1 => ?_)
  show ok (F_X12_every_B9 rec s1) _
  unfold F_X12_every_B9
  refine ok_ite (fun c => ?_) (fun _ => ok_some (lp_inr ⟨pb1, h1.1.1.2.1, fun _ => h1⟩))
  have ht := tok_ne c (by decide)
  refine ok_b1 (T_X12_next0 (PI_P0 h1.1.1.2.2.1)) (fun s8 h8 => ?_)
  have g8 : HT s s8 [true] (e + 1) (0 + 1) := HT_nx1 h1.1 h8 ht
  have p8 : PE s8 := HH_PE g8.1 (by decide) h
  have d8 : s8.1 88 23 = s.1 88 23 := (h8.1.2 23 (by decide) (by decide) (by decide) (by decide)).trans h1.2
  refine ok_b2 (hrec s8 p8 d8) (fun v12 s11 hq => ?_)
  have h11 : POT s8 true e (v12, s11) := hq
  clear hq
  refine ok_ite (fun _ => ok_some (lp_inr (POT_no (RE_tr g8.1.2.1 h11.2.1)))) (fun c => ?_)
  have k11 := h11.2.2 c
  have g11 : HT s s11 [true, true] (e + 1) (0 + 1 + 0) := HT_tr g8 k11.1 (by omega) (by show 1 + e ≤ e + 1; omega)
  have b := HH_st g11.1 (by decide) h
  refine ok_b1 (T_X12_lay b.1 b.2) (fun s15 l15 => ?_)
  have g15 : HT s s15 [true] (e + 1) _ := HT_lay g11 l15 (stp_bin (by decide) (by decide) (by decide)) (fun ts _ => tp_bin (by decide) (by decide) (by decide) ts) (by omega)
  exact ok_some (lp_inl ⟨HT_weak g15 (by decide) (by omega), (l15.2.1 23 (by decide)).trans (k11.2.trans d8)⟩ (LQ_m ht h1.1.1.2.2.1 h8 k11.1.1.2.2.2.2.2.1 l15))
theorem TT_any {rec : mG → Option (Int32 × mG)} {s : mG} {e : Nat} (h : PE s) (hrec : ∀ s', PE s' → s'.1 88 23 = s.1 88 23 → ok (rec s') (POT s' true e)) : ok (F_X12_any rec s) (POT s true (e + 2)) := by
  unfold F_X12_any
  refine ok_b2 (TT_every h hrec) (fun v3 s2 hq => ?_)
  have h2 : POT s true (e + 1) (v3, s2) := hq
  clear hq
  refine ok_ite (fun _ => ok_some (POT_no h2.2.1)) (fun c => ?_)
  unfold F_X12_any_L9
  refine ok_whl (LQT s true (e + 2)) (fun v => mUp (v.1 88 18)) ⟨HT_weak (h2.2.2 c).1 (by decide) (by omega), (h2.2.2 c).2⟩ (fun s1 h1 => ?_)
  show ok (F_X12_any_B9 rec s1) _
  unfold F_X12_any_B9
  refine ok_ite (fun c => ?_) (fun _ => ok_some (lp_inr ⟨pb1, h1.1.1.2.1, fun _ => h1⟩))
  have ht := tok_ne c (by decide)
  refine ok_b1 (T_X12_next0 (PI_P0 h1.1.1.2.2.1)) (fun s8 h8 => ?_)
  have g8 : HT s s8 [true] (e + 2) (0 + 1) := HT_nx1 h1.1 h8 ht
  have p8 : PE s8 := HH_PE g8.1 (by decide) h
  have d8 : s8.1 88 23 = s.1 88 23 := (h8.1.2 23 (by decide) (by decide) (by decide) (by decide)).trans h1.2
  refine ok_b2 (TT_every p8 (fun s' p' e' => hrec s' p' (e'.trans d8))) (fun v12 s11 hq => ?_)
  have h11 : POT s8 true (e + 1) (v12, s11) := hq
  clear hq
  refine ok_ite (fun _ => ok_some (lp_inr (POT_no (RE_tr g8.1.2.1 h11.2.1)))) (fun c => ?_)
  have k11 := h11.2.2 c
  have g11 : HT s s11 [true, true] (e + 2) (0 + 1 + 0) := HT_tr g8 k11.1 (by omega) (by show 1 + (e + 1) ≤ e + 2; omega)
  have b := HH_st g11.1 (by decide) h
  refine ok_b1 (T_X12_lay b.1 b.2) (fun s15 l15 => ?_)
  have g15 : HT s s15 [true] (e + 2) _ := HT_lay g11 l15 (stp_bin (by decide) (by decide) (by decide)) (fun ts _ => tp_bin (by decide) (by decide) (by decide) ts) (by omega)
  exact ok_some (lp_inl ⟨HT_weak g15 (by decide) (by omega), (l15.2.1 23 (by decide)).trans (k11.2.trans d8)⟩ (LQ_m ht h1.1.1.2.2.1 h8 k11.1.1.2.2.2.2.2.1 l15))
theorem TT_opens {s : mG} (h : PE s) (ht : s.1 88 17 ≠ 0) : ok (F_X12_opens s) (fun τ => PB τ.1 ∧ RE s τ.2 ∧ (¬ τ.1 = 0 → (s.1 88 23).toInt ≠ 8 ∧ HT s τ.2 [] 0 1 ∧ τ.2.1 88 23 = s.1 88 23 + ci 1)) := by
  unfold F_X12_opens
  refine ok_ite (fun _ => ?_) (fun c => ?_)
  · refine ok_b2 T_X12_bad (fun v s' hq => ?_)
    have hv : v = ci 0 := hq.1
    have hr : RE s s' := hq.2
    subst hv
    rw [if_pos (show ci 0 = 0 ∨ ci 0 = 1 from pb0)]
    exact ok_some ⟨pb0, hr, fun q => absurd z0 q⟩
  · have c8' := r_ne (rfl : (s.1 88 23).toInt = _) (by decide : (c8 8).toInt = 8) c
    extract_lets +onlyGivenNames s6
    have h6 : HT s s6 [] 0 0 := HT_23 (HT_refl h.1 h.2.1)
    have e17 : s6.1 88 17 = s.1 88 17 := mu_cellP (by omega)
    have e23 : s6.1 88 23 = s.1 88 23 + ci 1 := mu_sameP
    clear_value s6
    refine ok_b1 (T_X12_next0 (PI_P0 h6.1.2.2.1)) (fun s8 h8 => ?_)
    have g8 := HT_nx1 h6 h8 (by rw [e17]; exact ht)
    exact ok_some ⟨pb1, g8.1.2.1, fun _ => ⟨c8', g8, (h8.1.2 23 (by decide) (by decide) (by decide) (by decide)).trans e23⟩⟩
theorem TT_one_147 {rec : mG → Option (Int32 × mG)} {y0 : Int32} {s s1 : mG} (h : PE s) (h1 : LQT s false 3 s1) (ht : s1.1 88 17 ≠ 0) (hy : y0 = c8 27 ∨ y0 = c8 28 ∨ y0 = c8 29) : ok (F_X12_oneTest_147 rec y0 s1) (POT s true 4) := by
  unfold F_X12_oneTest_147
  refine ok_ite (fun _ => bad_POT h1.1.1.2.1) (fun _ => ?_)
  refine ok_b1 (T_X12_next0 (PI_P0 h1.1.1.2.2.1)) (fun s8 h8 => ?_)
  have g8 : HT s s8 [false] 3 (0 + 1) := HT_nx1 h1.1 h8 ht
  have p8 : PE s8 := HH_PE g8.1 (by decide) h
  have d8 : s8.1 88 23 = s.1 88 23 := (h8.1.2 23 (by decide) (by decide) (by decide) (by decide)).trans h1.2
  refine ok_b2 (TT_sumUp p8) (fun v12 s11 hq => ?_)
  have h11 : POT s8 false 3 (v12, s11) := hq
  clear hq
  refine ok_ite (fun _ => ok_some (POT_no (RE_tr g8.1.2.1 h11.2.1))) (fun c => ?_)
  have k11 := h11.2.2 c
  have g11 : HT s s11 [false, false] 4 (0 + 1 + 0) := HT_tr g8 k11.1 (by decide) (by decide)
  have b := HH_st g11.1 (by decide) h
  refine ok_b1 (T_X12_lay b.1 b.2) (fun s15 l15 => ?_)
  have hs : ∀ h, stpv y0 (ci 0) (h + 2) = some (h + 1) := by
    rcases hy with e | e | e
    · rw [e]; exact stp_bin (by decide) (by decide) (by decide)
    · rw [e]; exact stp_bin (by decide) (by decide) (by decide)
    · rw [e]; exact stp_bin (by decide) (by decide) (by decide)
  have ht2 : ∀ ts : List Bool, stpT y0 (ci 0) (false :: false :: ts) = some (true :: ts) := by
    rcases hy with e | e | e
    · rw [e]; exact fun ts => tp_bin (by decide) (by decide) (by decide) ts
    · rw [e]; exact fun ts => tp_bin (by decide) (by decide) (by decide) ts
    · rw [e]; exact fun ts => tp_bin (by decide) (by decide) (by decide) ts
  have g15 : HT s s15 [true] 4 _ := HT_lay g11 l15 hs (fun ts _ => ht2 ts) (by decide)
  exact ok_some ⟨pb1, g15.1.2.1, fun _ => ⟨HT_weak g15 (by decide) (by decide), (l15.2.1 23 (by decide)).trans (k11.2.trans d8)⟩⟩
theorem TT_oneTest {rec : mG → Option (Int32 × mG)} {s : mG} {e : Nat} (h : PE s) (h4 : 4 ≤ e) (hrec : (s.1 88 23).toInt ≠ 8 → ∃ e', e' + 2 ≤ e ∧ ∀ s', PE s' → s'.1 88 23 = s.1 88 23 + ci 1 → ok (rec s') (POT s' true e')) : ok (F_X12_oneTest rec s) (POT s true e) := by
  unfold F_X12_oneTest F_X12_oneTest_23 F_X12_oneTest_78
  refine ok_ite (fun c => ?_) (fun _ => ok_ite (fun c => ?_) (fun _ => ?_))
  · refine ok_b2 (TT_opens h (tok_ne c (by decide))) (fun v4 s3 hq => ?_)
    obtain ⟨_, h3, k3⟩ := hq
    refine ok_ite (fun _ => ok_some (POT_no h3)) (fun c4 => ?_)
    obtain ⟨k1, k2, k3⟩ := k3 c4
    have k2' : HT s s3 [] 0 1 := k2
    have k3' : s3.1 88 23 = s.1 88 23 + ci 1 := k3
    obtain ⟨e', he', hr⟩ := hrec k1
    refine ok_b2 (hr s3 (HH_PE k2'.1 (by decide) h) k3') (fun v8 s7 hq => ?_)
    have h7 : POT s3 true e' (v8, s7) := hq
    clear hq
    refine ok_ite (fun _ => ok_some (POT_no (RE_tr k2'.1.2.1 h7.2.1))) (fun c8' => ?_)
    have q7 := h7.2.2 c8'
    extract_lets +onlyGivenNames s10
    have g10 : HT s s10 [true] e (1 + 0) := HT_23 (HT_tr k2' q7.1 (by omega) (by show 0 + e' ≤ e; omega))
    have e10 : s10.1 88 23 = s7.1 88 23 - ci 1 := mu_sameP
    clear_value s10
    have b := HH_st g10.1 (by decide) h
    refine ok_b1 (T_X12_lay b.1 b.2) (fun s12 l12 => ?_)
    have g12 : HT s s12 [true] e _ := HT_lay g10 l12 (fun h => stp_not h) (fun ts _ => tp_not ts) (by omega)
    refine ok_some ⟨pb1, g12.1.2.1, fun _ => ⟨HT_weak g12 (by decide) (by omega), ?_⟩⟩
    rw [show (ci 1, s12).2 = s12 from rfl, l12.2.1 23 (by decide), e10, q7.2, k3', a1s1]
  · refine ok_b2 (TT_opens h (tok_ne c (by decide))) (fun v16 s15 hq => ?_)
    obtain ⟨_, h3, k3⟩ := hq
    refine ok_ite (fun _ => ok_some (POT_no h3)) (fun c4 => ?_)
    obtain ⟨k1, k2, k3⟩ := k3 c4
    have k2' : HT s s15 [] 0 1 := k2
    have k3' : s15.1 88 23 = s.1 88 23 + ci 1 := k3
    obtain ⟨e', he', hr⟩ := hrec k1
    refine ok_b2 (TT_any (HH_PE k2'.1 (by decide) h) (fun s' p' e' => hr s' p' (e'.trans k3'))) (fun v20 s19 hq => ?_)
    have h7 : POT s15 true (e' + 2) (v20, s19) := hq
    clear hq
    refine ok_ite (fun _ => ok_some (POT_no (RE_tr k2'.1.2.1 h7.2.1))) (fun c8' => ?_)
    have q7 := h7.2.2 c8'
    have g19 : HT s s19 [true] e (1 + 0) := HT_tr k2' q7.1 (by omega) (by show 0 + (e' + 2) ≤ e; omega)
    refine ok_b2 (T_X12_need (PI_P0 g19.1.2.2.1)) (fun v24 s23 hq => ?_)
    obtain ⟨_, h23, k23⟩ := hq
    have h23' : RE s19 s23 := h23
    refine ok_ite (fun _ => ok_some (POT_no (RE_tr g19.1.2.1 h23'))) (fun c9 => ?_)
    have n23 : NX s19 s23 := (k23 c9).1
    have g23 := HT_nx0 g19 n23
    refine ok_some ⟨pb1, ?_, fun _ => ⟨HT_weak (HT_23 g23) (by decide) (by omega), ?_⟩⟩
    · exact RE_tr g23.1.2.1 (RE_mu (by unfold kE; omega))
    · show (mu s23.1 88 23 (s23.1 88 23 - ci 1)) 88 23 = s.1 88 23
      rw [mu_same, n23.1.2 23 (by decide) (by decide) (by decide) (by decide), q7.2, k3', a1s1]
  · refine ok_b2 (TT_sumUp h) (fun v29 s28 hq => ?_)
    have h28 : POT s false 3 (v29, s28) := hq
    clear hq
    refine ok_ite (fun _ => ok_some (POT_no h28.2.1)) (fun c => ?_)
    have k28 : LQT s false 3 s28 := h28.2.2 c
    have up : ∀ {o : Option (Int32 × mG)}, ok o (POT s true 4) → ok o (POT s true e) := fun q => ok_mono q (fun τ w => ⟨w.1, w.2.1, fun hn => ⟨HT_weak (w.2.2 hn).1 (Int.le_refl _) h4, (w.2.2 hn).2⟩⟩)
    refine ok_ite (fun c => up (TT_one_147 h k28 (tok_ne c (by decide)) (Or.inl rfl))) (fun _ => ?_)
    refine ok_ite (fun c => up (TT_one_147 h k28 (tok_ne c (by decide)) (Or.inr (Or.inl rfl)))) (fun _ => ?_)
    refine ok_ite (fun c => up (TT_one_147 h k28 (tok_ne c (by decide)) (Or.inr (Or.inr rfl)))) (fun _ => ?_)
    unfold F_X12_oneTest_147
    rw [if_pos rfl]
    exact bad_POT k28.1.1.2.1
end
end
/-! 5x2.lines -/
section
noncomputable section
/-! THE LINES OF A LAW, with what their code pushes -/
theorem TTQ_one : ∀ (n : Nat) (s : mG), PE s → 0 ≤ (s.1 88 23).toInt → (s.1 88 23).toInt ≤ 8 → 9 ≤ (s.1 88 23).toInt + n → ∀ {e : Nat}, (e : Int) = 20 - 2 * (s.1 88 23).toInt → ok (Q_X12_oneTest n s) (POT s true e) := by
  intro n
  induction n with
  | zero => intro s _ h0 h1 h2; omega
  | succ n ih =>
    intro s hp h0 h1 h2 e he
    show ok (F_X12_oneTest (Q_X12_oneTest n) s) (POT s true e)
    refine TT_oneTest hp (by omega) (fun hne => ⟨e - 2, by omega, fun s' hp' hd => ?_⟩)
    have e1 : (s'.1 88 23).toInt = (s.1 88 23).toInt + 1 := by rw [hd]; exact t_up (by omega)
    exact ih s' hp' (by omega) (by omega) (by omega) (by omega)
def LOT (s : mG) (i : Nat) : Prop := ∃ a b c : Nat, (c : Int) ≤ (s.1 88 13).toInt ∧ a ≤ b ∧ b ≤ c ∧ s.1 92 (4 * i) = cn a ∧ s.1 92 (4 * i + 1) = cn b ∧ s.1 92 (4 * i + 2) = cn c ∧ Rt (s.1 93) a (b - a) [] [false] ∧ (b = c ∨ Rt (s.1 93) b (c - b) [] [true])
theorem LOT_mono {s s' : mG} {i : Nat} (h : LOT s i) (hs : (s.1 88 13).toInt ≤ (s'.1 88 13).toInt) (h92 : ∀ k, k < 3 → s'.1 92 (4 * i + k) = s.1 92 (4 * i + k)) (h93 : ∀ j : Nat, (j : Int) < 2 * (s.1 88 13).toInt → s'.1 93 j = s.1 93 j) : LOT s' i := by
  obtain ⟨a, b, c, q1, q2, q3, q4, q5, q6, q7, q8⟩ := h
  refine ⟨a, b, c, by omega, q2, q3, (h92 0 (by decide)).trans q4, (h92 1 (by decide)).trans q5, (h92 2 (by decide)).trans q6, Rt_congr _ _ _ _ (fun j _ hj => h93 j (by omega)) q7, ?_⟩
  rcases q8 with e | e
  · exact Or.inl e
  · exact Or.inr (Rt_congr _ _ _ _ (fun j _ hj => h93 j (by omega)) e)
/-- what a line leaves -/
def ALT (s s' : mG) (n : Nat) : Prop := PE s' ∧ s'.1 88 12 = s.1 88 12 ∧ (∀ i, i < n + 1 → LOT s' i)
theorem al_123T {s : mG} {n a b c : Nat} (h : PE s) (h12 : (s.1 88 12).toInt = (n : Int)) (hn : n < 16) (h13 : (s.1 88 13).toInt = (c : Int)) (ha : s.1 92 (4 * n) = cn a) (hb : s.1 92 (4 * n + 1) = cn b) (hab : a ≤ b) (hbc : b ≤ c) (r1 : Rt (s.1 93) a (b - a) [] [false]) (r2 : b = c ∨ Rt (s.1 93) b (c - b) [] [true]) (hl : ∀ i, i < n → LOT s i) : ok (F_X12_aLine_123 s) (fun τ => PB τ.1 ∧ RT s τ.2 ∧ (¬ τ.1 = 0 → ALT s τ.2 n ∧ (s.1 88 18).toInt ≤ (τ.2.1 88 18).toInt)) := by
  unfold F_X12_aLine_123
  refine ok_nn (ix_ok (r_add (r_mul (by decide : (ci 4).toInt = 4) h12 (by omega) (by omega)) (by decide : (ci 2).toInt = 2) (by omega) (by omega)) (by omega) (by omega)) ?_
  rw [r_nat2 (e := ((ci 4) * (s.1 88 12)) + (ci 2)) (m := 4 * n + 2) (r_add (r_mul (by decide : (ci 4).toInt = 4) h12 (by omega) (by omega)) (by decide : (ci 2).toInt = 2) (by omega) (by omega)) (by omega)]
  extract_lets +onlyGivenNames s34
  have row : ∀ j, j ≠ 92 → s34.1 j = s.1 j := fun j hj => mu_rowP hj
  have cell : ∀ k, k ≠ 4 * n + 2 → s34.1 92 k = s.1 92 k := fun k hk => mu_cellP (Or.inr hk)
  have val : s34.1 92 (4 * n + 2) = s.1 88 13 := mu_sameP
  clear_value s34
  have e88 : s34.1 88 = s.1 88 := row 88 (by decide)
  have e93 : s34.1 93 = s.1 93 := row 93 (by decide)
  have p34 : PE s34 := PE_88 e88 h
  have rt34 : RT s s34 := ⟨fun j h1 _ => row j (by omega), by rw [e88], by rw [e88], by rw [e88]⟩
  refine ok_b2 (T_X12_need (PI_P0 p34.1)) (fun v37 s36 hq => ?_)
  obtain ⟨q1, q2, q3⟩ := hq
  have k1 : PB v37 := q1
  have k2 : RE s34 s36 := q2
  have k3 : ¬ v37 = 0 → NX s34 s36 ∧ s34.1 88 17 = c16 159 := q3
  clear q1 q2 q3
  refine ok_pp (show v37 = 0 ∨ v37 = 1 from k1) (ok_some ⟨k1, RT_tr rt34 (RT_RE k2), fun hv => ?_⟩)
  obtain ⟨nx, _⟩ := k3 hv
  have n13 : s36.1 88 13 = s.1 88 13 := (nx.1.2 13 (by decide) (by decide) (by decide) (by decide)).trans (by rw [e88])
  have n12 : s36.1 88 12 = s.1 88 12 := (nx.1.2 12 (by decide) (by decide) (by decide) (by decide)).trans (by rw [e88])
  have n92 : s36.1 92 = s34.1 92 := nx.1.1 92 (by decide)
  have n93 : s36.1 93 = s.1 93 := (nx.1.1 93 (by decide)).trans e93
  have t1 := nx.2.2
  have t2 := p34.1.2.2.1
  have t3 := p34.2.2
  have e18 : s34.1 88 18 = s.1 88 18 := by rw [e88]
  have e13 : s34.1 88 13 = s.1 88 13 := by rw [e88]
  have w1 : (s.1 88 13).toInt ≤ (s36.1 88 18).toInt := by rw [e13] at t3; omega
  have w0 : 0 ≤ (s.1 88 13).toInt := by omega
  refine ⟨⟨⟨nx.2.1, by rw [n13]; exact w0, by rw [n13]; exact w1⟩, n12, fun i hi => ?_⟩, by rw [← e18]; show (s34.1 88 18).toInt ≤ (s36.1 88 18).toInt; omega⟩
  by_cases e : i = n
  · subst e
    refine ⟨a, b, c, by rw [n13]; omega, hab, hbc, ?_, ?_, ?_, by rw [n93]; exact r1, by rw [n93]; exact r2⟩
    · rw [n92, cell _ (by omega)]; exact ha
    · rw [n92, cell _ (by omega)]; exact hb
    · rw [n92, val]; exact cn_of h13 (by have := h.2.2; have := h.1.1; have := h.1.2.2.1; have := h.1.2.2.2.1; omega)
  · exact LOT_mono (hl i (by omega)) (by rw [n13]; omega) (fun k hk => by rw [n92, cell _ (by omega)]) (fun j _ => by rw [n93])
theorem TT_aLine {s : mG} {n : Nat} (h : PE s) (h12 : (s.1 88 12).toInt = (n : Int)) (hn : n ≤ 16) (hl : ∀ i, i < n → LOT s i) : ok (F_X12_aLine s) (fun τ => PB τ.1 ∧ RT s τ.2 ∧ (¬ τ.1 = 0 → n < 16 ∧ ALT s τ.2 n ∧ (s.1 88 18).toInt < (τ.2.1 88 18).toInt)) := by
  have bad : ∀ x, ok (b2 (F_X12_bad x s) fun v s' => if v = 0 ∨ v = 1 then some (v, s') else none) (fun τ => PB τ.1 ∧ RT s τ.2 ∧ (¬ τ.1 = 0 → n < 16 ∧ ALT s τ.2 n ∧ (s.1 88 18).toInt < (τ.2.1 88 18).toInt)) := by
    intro x
    refine ok_b2 T_X12_bad (fun v s' hq => ?_)
    have hv : v = ci 0 := hq.1
    have hr : RE s s' := hq.2
    subst hv
    rw [if_pos (show ci 0 = 0 ∨ ci 0 = 1 from pb0)]
    exact ok_some ⟨pb0, RT_RE hr, fun q => absurd z0 q⟩
  unfold F_X12_aLine
  rw [F_isIn, b1_some]
  refine ok_ite (fun _ => bad _) (fun cw => ?_)
  have w := isin_f (a := s.1 88 17) (by decide : (c8 20).toInt = 20) (by decide : (c8 25).toInt = 25) (wi_f cw)
  have ht : s.1 88 17 ≠ 0 := fun q => by rw [q, t_zero] at w; omega
  refine ok_ite (fun _ => bad _) (fun c16' => ?_)
  have c16'' := r_ne h12 (by decide : (c8 16).toInt = 16) c16'
  have hn : n < 16 := by omega
  have st0 := h.2.1
  have st1 := h.2.2
  have pa := h.1.2.2.2.2 ht
  have pb := h.1.1
  have pc := h.1.2.2.2.1
  extract_lets +onlyGivenNames s13
  have r13 : ∀ j, j ≠ 88 → s13.1 j = s.1 j := fun j hj => mu_rowP hj
  have c13 : ∀ k, k ≠ 23 → s13.1 88 k = s.1 88 k := fun k hk => mu_cellP (Or.inr hk)
  have d13 : s13.1 88 23 = ci 0 := mu_sameP
  clear_value s13
  rw [c13 12 (by decide)]
  refine ok_nn (ix_ok (r_add (r_mul (by decide : (ci 4).toInt = 4) h12 (by omega) (by omega)) (by decide : (ci 3).toInt = 3) (by omega) (by omega)) (by omega) (by omega)) ?_
  rw [r_nat2 (e := ((ci 4) * (s.1 88 12)) + (ci 3)) (m := 4 * n + 3) (r_add (r_mul (by decide : (ci 4).toInt = 4) h12 (by omega) (by omega)) (by decide : (ci 3).toInt = 3) (by omega) (by omega)) (by omega)]
  extract_lets +onlyGivenNames s15
  have r15 : ∀ j, j ≠ 92 → s15.1 j = s13.1 j := fun j hj => mu_rowP hj
  have c15 : ∀ k, k ≠ 4 * n + 3 → s15.1 92 k = s13.1 92 k := fun k hk => mu_cellP (Or.inr hk)
  clear_value s15
  have e15 : ∀ k, k ≠ 23 → s15.1 88 k = s.1 88 k := fun k hk => (congrFun (r15 88 (by decide)) k).trans (c13 k hk)
  have P15 : P0 s15 := by unfold P0; rw [e15 15 (by decide), e15 16 (by decide)]; exact ⟨h.1.1, by omega, h.1.2.2.2.1⟩
  refine ok_b1 (T_X12_next0 P15) (fun s17 n17 => ?_)
  have f17 : ∀ k, k ≠ 16 → k ≠ 17 → k ≠ 18 → k ≠ 19 → k ≠ 23 → s17.1 88 k = s.1 88 k := fun k a1 a2 a3 a4 a5 => (n17.1.2 k a1 a2 a3 a4).trans (e15 k a5)
  have d17 : s17.1 88 23 = ci 0 := (n17.1.2 23 (by decide) (by decide) (by decide) (by decide)).trans ((congrFun (r15 88 (by decide)) 23).trans d13)
  have t17 : (s.1 88 18).toInt < (s17.1 88 18).toInt := by
    have a1 := n17.2.2
    rw [e15 16 (by decide)] at a1
    omega
  have r17 : ∀ j, j ≠ 88 → j ≠ 92 → s17.1 j = s.1 j := fun j h1 h2 => (n17.1.1 j h1).trans ((r15 j h2).trans (r13 j h1))
  have c17 : ∀ k, k ≠ 4 * n + 3 → s17.1 92 k = s.1 92 k := fun k hk => (congrFun (n17.1.1 92 (by decide)) k).trans ((c15 k hk).trans (congrFun (r13 92 (by decide)) k))
  rw [f17 12 (by decide) (by decide) (by decide) (by decide) (by decide), f17 13 (by decide) (by decide) (by decide) (by decide) (by decide)]
  refine ok_nn (ix_ok (r_mul (by decide : (ci 4).toInt = 4) h12 (by omega) (by omega)) (by omega) (by omega)) ?_
  rw [r_nat2 (e := (ci 4) * (s.1 88 12)) (m := 4 * n) (r_mul (by decide : (ci 4).toInt = 4) h12 (by omega) (by omega)) (by omega)]
  extract_lets +onlyGivenNames s19
  have r19 : ∀ j, j ≠ 92 → s19.1 j = s17.1 j := fun j hj => mu_rowP hj
  have c19 : ∀ k, k ≠ 4 * n → s19.1 92 k = s17.1 92 k := fun k hk => mu_cellP (Or.inr hk)
  have v19 : s19.1 92 (4 * n) = s.1 88 13 := mu_sameP
  clear_value s19
  have e19 : s19.1 88 = s17.1 88 := r19 88 (by decide)
  have p17 : PE s17 := ⟨n17.2.1, by rw [f17 13 (by decide) (by decide) (by decide) (by decide) (by decide)]; exact st0, by rw [f17 13 (by decide) (by decide) (by decide) (by decide) (by decide)]; omega⟩
  have p19 : PE s19 := PE_88 e19 p17
  have s13' : s19.1 88 13 = s.1 88 13 := by rw [e19]; exact f17 13 (by decide) (by decide) (by decide) (by decide) (by decide)
  have s12' : s19.1 88 12 = s.1 88 12 := by rw [e19]; exact f17 12 (by decide) (by decide) (by decide) (by decide) (by decide)
  have s23' : s19.1 88 23 = ci 0 := by rw [e19]; exact d17
  have s18' : (s.1 88 18).toInt < (s19.1 88 18).toInt := by rw [e19]; exact t17
  have R19 : ∀ j, j ≠ 88 → j ≠ 92 → s19.1 j = s.1 j := fun j h1 h2 => (r19 j h2).trans (r17 j h1 h2)
  have rt19 : RT s s19 := ⟨fun j h1 h2 => R19 j h2 (by omega), by rw [e19]; exact f17 3 (by decide) (by decide) (by decide) (by decide) (by decide), by rw [e19]; exact f17 4 (by decide) (by decide) (by decide) (by decide) (by decide), by rw [e19]; exact f17 15 (by decide) (by decide) (by decide) (by decide) (by decide)⟩
  have C19 : ∀ k, k < 4 * n → s19.1 92 k = s.1 92 k := fun k hk => (c19 k (by omega)).trans (c17 k (by omega))
  refine ok_b2 (TT_sumUp p19) (fun v22 s21 hq => ?_)
  have h21 : POT s19 false 3 (v22, s21) := hq
  clear hq
  have R21 : RE s19 s21 := h21.2.1
  refine ok_ite (fun _ => ok_some ⟨pb0, RT_tr rt19 (RT_RE R21), fun q => absurd z0 q⟩) (fun c22 => ?_)
  obtain ⟨g21, dd21⟩ := h21.2.2 c22
  have g21 : HT s19 s21 [false] 3 0 := g21
  have d21 : s21.1 88 23 = ci 0 := dd21.trans s23'
  clear dd21
  have e12 : s21.1 88 12 = s.1 88 12 := (R21.2 12 (by unfold kE; omega)).trans s12'
  have p21 : PE s21 := HH_PE g21.1 (by decide) p19
  have z8 := g21.2 [] (by decide)
  obtain ⟨z1, z2, z3, z4, z5, z6, z7, _⟩ := g21.1
  rw [s13'] at z1 z4 z5 z7 z8
  obtain ⟨a, ea⟩ : ∃ a : Nat, (s.1 88 13).toInt = (a : Int) := ⟨(s.1 88 13).toInt.toNat, by omega⟩
  obtain ⟨b, eb⟩ : ∃ b : Nat, (s21.1 88 13).toInt = (b : Int) := ⟨(s21.1 88 13).toInt.toNat, by omega⟩
  have hab : a ≤ b := by omega
  have ba : a < 1000 := by omega
  have bb : b < 1000 := by have := p21.2.2; have := p21.1.1; have := p21.1.2.2.1; have := p21.1.2.2.2.1; omega
  have rr1 : Rt (s21.1 93) a (b - a) [] [false] := by
    have := z8
    rw [ea, eb, show ((a : Int)).toNat = a from rfl, show ((b : Int) - (a : Int)).toNat = b - a by omega] at this
    exact this
  rw [e12]
  refine ok_nn (ix_ok (r_add (r_mul (by decide : (ci 4).toInt = 4) h12 (by omega) (by omega)) (by decide : (ci 1).toInt = 1) (by omega) (by omega)) (by omega) (by omega)) ?_
  rw [r_nat2 (e := ((ci 4) * (s.1 88 12)) + (ci 1)) (m := 4 * n + 1) (r_add (r_mul (by decide : (ci 4).toInt = 4) h12 (by omega) (by omega)) (by decide : (ci 1).toInt = 1) (by omega) (by omega)) (by omega)]
  extract_lets +onlyGivenNames s25
  have r25 : ∀ j, j ≠ 92 → s25.1 j = s21.1 j := fun j hj => mu_rowP hj
  have c25 : ∀ k, k ≠ 4 * n + 1 → s25.1 92 k = s21.1 92 k := fun k hk => mu_cellP (Or.inr hk)
  have v25 : s25.1 92 (4 * n + 1) = s21.1 88 13 := mu_sameP
  clear_value s25
  have e25 : s25.1 88 = s21.1 88 := r25 88 (by decide)
  have p25 : PE s25 := PE_88 e25 p21
  have f92 : s21.1 92 = s19.1 92 := R21.1 92 (by decide) (by decide)
  have ha25 : s25.1 92 (4 * n) = cn a := by
    rw [c25 _ (by omega), f92, v19]; exact cn_of ea (by omega)
  have hb25 : s25.1 92 (4 * n + 1) = cn b := by rw [v25]; exact cn_of eb (by omega)
  have rt25 : RT s s25 := RT_tr rt19 (RT_tr (RT_RE R21) ⟨fun j h1 h2 => r25 j (by omega), by rw [e25], by rw [e25], by rw [e25]⟩)
  have l25 : ∀ i, i < n → LOT s25 i := fun i hi => LOT_mono (hl i hi) (by rw [e25]; omega) (fun k hk => by rw [c25 _ (by omega), f92, C19 _ (by omega)]) (fun j hj => by rw [r25 93 (by decide), z7 j hj, R19 93 (by decide) (by decide)])
  have t25 : (s.1 88 18).toInt < (s25.1 88 18).toInt := by rw [e25]; omega
  have e25_12 : (s25.1 88 12).toInt = (n : Int) := by rw [e25, e12]; exact h12
  have e25_93 : s25.1 93 = s21.1 93 := r25 93 (by decide)
  refine ok_ite (fun c3 => ?_) (fun _ => ?_)
  · have ht25 := tok_ne c3 (by decide)
    refine ok_b1 (T_X12_next0 (PI_P0 p25.1)) (fun s28 n28 => ?_)
    have x13 : s28.1 88 13 = s25.1 88 13 := n28.1.2 13 (by decide) (by decide) (by decide) (by decide)
    have x23 : s28.1 88 23 = ci 0 := (n28.1.2 23 (by decide) (by decide) (by decide) (by decide)).trans (by rw [e25]; exact d21)
    have y1 := n28.2.2
    have y2 := p25.1.2.2.1
    have y3 := p25.2.2
    have p28 : PE s28 := ⟨n28.2.1, by rw [x13]; exact p25.2.1, by rw [x13]; omega⟩
    have z23 : (s28.1 88 23).toInt = 0 := by rw [x23]; decide
    refine ok_b2 (TT_any (e := 20) p28 (fun s' p' e' => ?_)) (fun v31 s30 hq => ?_)
    · have e0 : (s'.1 88 23).toInt = 0 := by rw [e']; exact z23
      exact TTQ_one 9 s' p' (by omega) (by omega) (by omega) (e := 20) (by omega)
    · have h30 : POT s28 true 22 (v31, s30) := hq
      clear hq
      have R30 : RE s28 s30 := h30.2.1
      have rt30 : RT s s30 := RT_tr rt25 (RT_tr (RT_RE (RE_RN n28.1)) (RT_RE R30))
      refine ok_ite (fun _ => ok_some ⟨pb0, rt30, fun q => absurd z0 q⟩) (fun c31 => ?_)
      obtain ⟨g30, _⟩ := h30.2.2 c31
      have g30 : HT s28 s30 [true] 22 0 := g30
      have p30 : PE s30 := HH_PE g30.1 (by decide) p28
      have w8 := g30.2 [] (by decide)
      obtain ⟨w1, w2, w3, w4, w5, w6, w7, _⟩ := g30.1
      have x13' : (s28.1 88 13).toInt = (b : Int) := by rw [x13, e25]; exact eb
      rw [x13'] at w1 w4 w5 w7 w8
      obtain ⟨c, ec⟩ : ∃ c : Nat, (s30.1 88 13).toInt = (c : Int) := ⟨(s30.1 88 13).toInt.toNat, by omega⟩
      have g92 : s30.1 92 = s25.1 92 := (R30.1 92 (by decide) (by decide)).trans (n28.1.1 92 (by decide))
      have g93 : ∀ j : Nat, (j : Int) < 2 * (b : Int) → s30.1 93 j = s25.1 93 j := fun j hj => (w7 j hj).trans (congrFun (n28.1.1 93 (by decide)) j)
      have g12 : s30.1 88 12 = s25.1 88 12 := (R30.2 12 (by unfold kE; omega)).trans (n28.1.2 12 (by decide) (by decide) (by decide) (by decide))
      have rr2 : Rt (s30.1 93) b (c - b) [] [true] := by
        have := w8
        rw [ec, show ((b : Int)).toNat = b from rfl, show ((c : Int) - (b : Int)).toNat = c - b by omega] at this
        exact this
      refine ok_mono (al_123T (n := n) (a := a) (b := b) (c := c) p30 (by rw [g12]; exact e25_12) hn ec (by rw [g92]; exact ha25) (by rw [g92]; exact hb25) hab (by omega) (Rt_congr _ _ _ _ (fun j _ hj => by rw [g93 j (by omega), e25_93]) rr1) (Or.inr rr2) (fun i hi => LOT_mono (l25 i hi) (by rw [e25, ec, eb]; omega) (fun k _ => by rw [g92]) (fun j hj => g93 j (by rw [e25, eb] at hj; omega)))) (fun τ q => ?_)
      obtain ⟨q1, q2, q3⟩ := q
      refine ⟨q1, RT_tr rt30 q2, fun hv => ?_⟩
      obtain ⟨⟨u1, u2, u3⟩, u4⟩ := q3 hv
      exact ⟨hn, ⟨u1, u2.trans (g12.trans (by rw [e25]; exact e12)), u3⟩, by omega⟩
  · refine ok_mono (al_123T (n := n) (a := a) (b := b) (c := b) p25 e25_12 hn (by rw [e25]; exact eb) ha25 hb25 hab (Nat.le_refl _) (by rw [e25_93]; exact rr1) (Or.inl rfl) l25) (fun τ q => ?_)
    obtain ⟨q1, q2, q3⟩ := q
    refine ⟨q1, RT_tr rt25 q2, fun hv => ?_⟩
    obtain ⟨⟨u1, u2, u3⟩, u4⟩ := q3 hv
    exact ⟨hn, ⟨u1, u2.trans (by rw [e25]; exact e12), u3⟩, by omega⟩
/-- a law, read so far -/
def LSxT (s : mG) : Prop := PE s ∧ 0 ≤ (s.1 88 12).toInt ∧ (s.1 88 12).toInt ≤ 16 ∧ ∀ i : Nat, (i : Int) < (s.1 88 12).toInt → LOT s i
theorem TT_readsLaw {s : mG} (h : PI s) : ok (F_X12_readsLaw s) (fun τ => PB τ.1 ∧ RT s τ.2 ∧ (¬ τ.1 = 0 → LSxT τ.2)) := by
  unfold F_X12_readsLaw
  extract_lets +onlyGivenNames s1
  have r1 : RT s s1 := RT_mu (by omega)
  have c1 : ∀ k, k ≠ 12 → s1.1 88 k = s.1 88 k := fun k hk => mu_cellP (Or.inr hk)
  have v1 : s1.1 88 12 = ci 0 := mu_sameP
  clear_value s1
  extract_lets +onlyGivenNames s2
  have r2 : RT s s2 := RT_mu1 r1 (by omega)
  have c2 : ∀ k, k ≠ 13 → s2.1 88 k = s1.1 88 k := fun k hk => mu_cellP (Or.inr hk)
  have v2 : s2.1 88 13 = ci 0 := mu_sameP
  clear_value s2
  have z : (ci 0).toInt = 0 := by decide
  have e12 : s2.1 88 12 = ci 0 := (c2 12 (by decide)).trans v1
  have e : ∀ k, k ≠ 12 → k ≠ 13 → s2.1 88 k = s.1 88 k := fun k h1 h2 => (c2 k h2).trans (c1 k h1)
  have p2 : PI s2 := by
    unfold PI
    rw [e 15 (by decide) (by decide), e 16 (by decide) (by decide), e 17 (by decide) (by decide), e 18 (by decide) (by decide)]
    exact h
  have L2 : LSxT s2 := ⟨⟨p2, by rw [v2, z]; omega, by rw [v2, z]; exact p2.2.1⟩, by rw [e12, z]; omega, by rw [e12, z]; omega, fun i hi => by rw [e12, z] at hi; omega⟩
  unfold F_X12_readsLaw_L12
  refine ok_whl (fun v => PB v.1 ∧ RT s v.2 ∧ (¬ v.1 = 0 → LSxT v.2)) (fun v => mGd v.1 v.2) ⟨pb1, r2, fun _ => L2⟩ (fun v hv => ?_)
  obtain ⟨x1, s3⟩ := v
  obtain ⟨q1, q2, q3⟩ := hv
  have k1 : PB x1 := q1
  have k2 : RT s s3 := q2
  have k3 : ¬ x1 = 0 → LSxT s3 := q3
  clear q1 q2 q3
  show ok (F_X12_readsLaw_B12 x1 s3) _
  unfold F_X12_readsLaw_B12 F_X12_readsLaw_49
  have fin : ok (b1 (if x1 = 0 ∨ x1 = 1 then some (x1, s3) else none) fun τ => some (Sum.inr τ)) (lpost (fun (v : Int32 × mG) => PB v.1 ∧ RT s v.2 ∧ (¬ v.1 = 0 → LSxT v.2)) (fun v => mGd v.1 v.2) (mGd x1 s3) (fun τ => PB τ.1 ∧ RT s τ.2 ∧ (¬ τ.1 = 0 → LSxT τ.2))) := by
    rw [if_pos (show x1 = 0 ∨ x1 = 1 from k1)]
    exact ok_some (lp_inr ⟨k1, k2, k3⟩)
  refine ok_ite (fun _ => fin) (fun c0 => ?_)
  refine ok_ite (fun _ => fin) (fun c17 => ?_)
  obtain ⟨w1, w2, w3, w4⟩ := k3 c0
  obtain ⟨n, en⟩ : ∃ n : Nat, (s3.1 88 12).toInt = (n : Int) := ⟨(s3.1 88 12).toInt.toNat, by omega⟩
  refine ok_b2 (TT_aLine (n := n) w1 en (by omega) (fun i hi => w4 i (by omega))) (fun v8 s7 hq => ?_)
  obtain ⟨q1, q2, q3⟩ := hq
  have j1 : PB v8 := q1
  have j2 : RT s3 s7 := q2
  have j3 : ¬ v8 = 0 → n < 16 ∧ ALT s3 s7 n ∧ (s3.1 88 18).toInt < (s7.1 88 18).toInt := q3
  clear q1 q2 q3
  unfold F_X12_readsLaw_42
  have m0 : mGd x1 s3 = mUp (s3.1 88 18) + 1 := if_neg c0
  refine ok_ite (fun cv => ?_) (fun cv => ?_)
  · refine ok_some (lp_inl ⟨j1, RT_tr k2 (RT_tr j2 (RT_mu (by omega))), fun q => absurd cv q⟩ ?_)
    show mGd v8 _ < mGd x1 s3
    rw [m0, show mGd v8 (mu s7.1 88 12 (s7.1 88 12 + ci 0), s7.2) = 0 from if_pos cv]
    omega
  · obtain ⟨u1, ⟨u2, u3, u4⟩, u5⟩ := j3 cv
    extract_lets +onlyGivenNames s10
    have rt : RT s7 s10 := RT_mu (by omega)
    have cc : ∀ k, k ≠ 12 → s10.1 88 k = s7.1 88 k := fun k hk => mu_cellP (Or.inr hk)
    have rr : ∀ j, j ≠ 88 → s10.1 j = s7.1 j := fun j hj => mu_rowP hj
    have vv : s10.1 88 12 = s7.1 88 12 + ci 1 := mu_sameP
    clear_value s10
    have t12 : (s10.1 88 12).toInt = (n : Int) + 1 := by rw [vv, u3, t_up (by omega), en]
    have w2 : 0 ≤ (s10.1 88 12).toInt ∧ (s10.1 88 12).toInt ≤ 16 := by omega
    refine ok_some (lp_inl ⟨j1, RT_tr k2 (RT_tr j2 rt), fun _ => ⟨?_, w2.1, w2.2, fun i hi => ?_⟩⟩ ?_)
    · show PE s10
      unfold PE PI
      rw [cc 13 (by decide), cc 15 (by decide), cc 16 (by decide), cc 17 (by decide), cc 18 (by decide)]
      exact u2
    · replace hi : (i : Int) < (s10.1 88 12).toInt := hi
      exact LOT_mono (u4 i (by omega)) (by rw [cc 13 (by decide)]; omega) (fun k _ => by rw [rr 92 (by decide)]) (fun j _ => by rw [rr 93 (by decide)])
    · show mGd v8 s10 < mGd x1 s3
      rw [m0, show mGd v8 s10 = mUp (s10.1 88 18) + 1 from if_neg cv, cc 18 (by decide)]
      have b1 := u2.1.2.2.1
      have b2 := u2.1.2.2.2.1
      have b3 := u2.1.1
      unfold mUp
      omega
end
end
/-! 5x3.puts -/
section
noncomputable section
/-! WHAT putsSigns AND putsShifts WRITE, cell by cell -/
/-- n cells from place p on are those of f -/
def ovr (p n : Nat) (f g : Nat → Int32) (k : Nat) : Int32 := if p ≤ k ∧ k < p + n then f (k - p) else g k
theorem ovr_0 {p : Nat} {f g : Nat → Int32} : ovr p 0 f g = g := by
  funext k
  unfold ovr
  rw [if_neg (by omega)]
theorem ovr_up {p n : Nat} {f g : Nat → Int32} {D : Nat → Nat → Int32} {i : Nat} (h : D i = ovr p n f g) {v : Int32} (hv : v = f n) : mu D i (p + n) v i = ovr p (n + 1) f g := by
  funext k
  rw [mu_ap]
  by_cases e : k = p + n
  · rw [if_pos ⟨rfl, e⟩]
    unfold ovr
    rw [if_pos (by omega), hv, e, show p + n - p = n by omega]
  · rw [if_neg (fun q => e q.2), h]
    unfold ovr
    by_cases q : p ≤ k ∧ k < p + n
    · rw [if_pos q, if_pos (by omega)]
    · rw [if_neg q, if_neg (by omega)]
theorem E_putsSigns {s : mG} {R : Nat} (hR : R ≤ 6) (h : s.1 88 14 = cn R) : pk (F_X12_putsSigns s) (fun τ => τ.1 = cn R ∧ (∀ j, j ≠ 88 → j ≠ 89 → τ.2.1 j = s.1 j) ∧ (∀ c, c ≠ 3 → τ.2.1 88 c = s.1 88 c) ∧ τ.2.1 88 3 = ci 0 ∧ τ.2.1 89 = ovr 39 72 (fun _ => ci (-1)) (ovr 143 (2 * R) (s.1 94) (mu s.1 89 115 (cn R) 89))) := by
  unfold F_X12_putsSigns F_X12_putsSigns_L13
  rw [h]
  dsimp only
  have e2 : (ci 2) * cn R = cn (2 * R) := cn_mul (a := 2) (by omega) (by omega) (by omega)
  refine pk_whl (fun v => ∃ n, n ≤ 2 * R ∧ v.1 = cn n ∧ (∀ j, j ≠ 89 → v.2.1 j = s.1 j) ∧ v.2.1 89 = ovr 143 n (s.1 94) (mu s.1 89 115 (cn R) 89)) ⟨0, by omega, rfl, fun j hj => mu_row hj, ovr_0.symm⟩ (fun v hv => ?_)
  obtain ⟨x1, u⟩ := v
  obtain ⟨n, hn, e1, r, e89⟩ := hv
  have e1 : x1 = cn n := e1
  have r : ∀ j, j ≠ 89 → u.1 j = s.1 j := r
  have e89 : u.1 89 = ovr 143 n (s.1 94) (mu s.1 89 115 (cn R) 89) := e89
  subst e1
  have e14 : u.1 88 14 = cn R := by rw [r 88 (by decide)]; exact h
  unfold F_X12_putsSigns_B13
  dsimp only
  rw [e14, e2]
  by_cases hl : n = 2 * R
  · subst hl
    rw [if_pos ((cn_le (by omega) (by omega)).mpr (by omega))]
    refine pk_b1r ?_
    unfold F_X12_putsSigns_L47
    refine pk_whl (fun v => ∃ m, m ≤ 72 ∧ v.1 = cn m ∧ (∀ j, j ≠ 89 → v.2.1 j = s.1 j) ∧ v.2.1 89 = ovr 39 m (fun _ => ci (-1)) (ovr 143 (2 * R) (s.1 94) (mu s.1 89 115 (cn R) 89))) ⟨0, by omega, rfl, r, e89.trans ovr_0.symm⟩ (fun v hv => ?_)
    obtain ⟨x1, w⟩ := v
    obtain ⟨m, hm, g1, r2, g89⟩ := hv
    have g1 : x1 = cn m := g1
    have r2 : ∀ j, j ≠ 89 → w.1 j = s.1 j := r2
    have g89 : w.1 89 = ovr 39 m (fun _ => ci (-1)) (ovr 143 (2 * R) (s.1 94) (mu s.1 89 115 (cn R) 89)) := g89
    subst g1
    have q72 : (c8 72 ≤ cn m) ↔ 72 ≤ m := cn_le (a := 72) (by omega) (by omega)
    unfold F_X12_putsSigns_B47
    dsimp only
    rw [V_forgets, b1_some]
    by_cases h72 : m = 72
    · subst h72
      rw [if_pos (q72.mpr (by omega))]
      refine pk_some (show _ ∧ _ from ⟨?_, fun j h1 h2 => ?_, fun c hc => ?_, ?_, ?_⟩)
      · dsimp only
        rw [mu_cell (by decide), r2 88 (by decide)]; exact h
      · dsimp only
        rw [mu_row h1]; exact r2 j h2
      · dsimp only
        rw [mu_cell (Or.inr hc), r2 88 (by decide)]
      · dsimp only
        exact mu_same
      · dsimp only
        rw [mu_row (by decide)]; exact g89
    · rw [if_neg (fun q => h72 (by have := q72.mp q; omega)), show c8 39 + cn m = cn (39 + m) from cn_add (a := 39) (by omega), if_neg (cn_ix (by omega) (by omega)), cn_nat (by omega), cnu (by omega)]
      exact pk_some (show ∃ _, _ from ⟨m + 1, by omega, rfl, fun j hj => (mu_row hj).trans (r2 j hj), ovr_up g89 rfl⟩)
  · rw [if_neg (fun q => hl (by have := (cn_le (by omega) (by omega)).mp q; omega)), show c16 143 + cn n = cn (143 + n) from cn_add (a := 143) (by omega), if_neg (cn_ix (by omega) (by omega)), if_neg (cn_ix (by omega) (by omega)), cn_nat (by omega), cn_nat (by omega), cnu (by omega)]
    exact pk_some (show ∃ _, _ from ⟨n + 1, by omega, rfl, fun j hj => (mu_row hj).trans (r j hj), ovr_up e89 (by rw [r 94 (by decide)])⟩)
theorem E_putsShifts {s : mG} {R : Nat} (hR : R ≤ 12) (h : s.1 88 14 = cn R) : pk (F_X12_putsShifts s) (fun τ => τ.1 = cn R ∧ (∀ j, j ≠ 88 → j ≠ 89 → τ.2.1 j = s.1 j) ∧ (∀ c, c ≠ 3 → τ.2.1 88 c = s.1 88 c) ∧ τ.2.1 88 3 = ci 0 ∧ τ.2.1 89 = ovr 155 (4 * R) (s.1 94) (mu s.1 89 116 (cn R) 89)) := by
  unfold F_X12_putsShifts F_X12_putsShifts_L13
  rw [h]
  dsimp only
  have e2 : (ci 4) * cn R = cn (4 * R) := cn_mul (a := 4) (by omega) (by omega) (by omega)
  refine pk_whl (fun v => ∃ n, n ≤ 4 * R ∧ v.1 = cn n ∧ (∀ j, j ≠ 89 → v.2.1 j = s.1 j) ∧ v.2.1 89 = ovr 155 n (s.1 94) (mu s.1 89 116 (cn R) 89)) ⟨0, by omega, rfl, fun j hj => mu_row hj, ovr_0.symm⟩ (fun v hv => ?_)
  obtain ⟨x1, u⟩ := v
  obtain ⟨n, hn, e1, r, e89⟩ := hv
  have e1 : x1 = cn n := e1
  have r : ∀ j, j ≠ 89 → u.1 j = s.1 j := r
  have e89 : u.1 89 = ovr 155 n (s.1 94) (mu s.1 89 116 (cn R) 89) := e89
  subst e1
  have e14 : u.1 88 14 = cn R := by rw [r 88 (by decide)]; exact h
  unfold F_X12_putsShifts_B13
  dsimp only
  rw [V_forgets, b1_some, e14, e2]
  by_cases hl : n = 4 * R
  · subst hl
    rw [if_pos ((cn_le (by omega) (by omega)).mpr (by omega))]
    refine pk_some (show _ ∧ _ from ⟨?_, fun j h1 h2 => ?_, fun c hc => ?_, ?_, ?_⟩)
    · dsimp only
      rw [mu_cell (by decide)]; exact e14
    · dsimp only
      rw [mu_row h1]; exact r j h2
    · dsimp only
      rw [mu_cell (Or.inr hc), r 88 (by decide)]
    · dsimp only
      exact mu_same
    · dsimp only
      rw [mu_row (by decide)]; exact e89
  · rw [if_neg (fun q => hl (by have := (cn_le (by omega) (by omega)).mp q; omega)), show c16 155 + cn n = cn (155 + n) from cn_add (a := 155) (by omega), if_neg (cn_ix (by omega) (by omega)), if_neg (cn_ix (by omega) (by omega)), cn_nat (by omega), cn_nat (by omega), cnu (by omega)]
    exact pk_some (show ∃ _, _ from ⟨n + 1, by omega, rfl, fun j hj => (mu_row hj).trans (r j hj), ovr_up e89 (by rw [r 94 (by decide)])⟩)
/-- the law's lines and steps as they are put -/
def PLn (n L : Nat) (s u : mG) : Prop := (∀ j, j ≠ 89 → u.1 j = s.1 j) ∧ u.1 89 117 = cn L ∧ (∀ j, j < n → u.1 89 (985 + j) = s.1 92 (4 * j) ∧ u.1 89 (1001 + j) = s.1 92 (4 * j + 1) ∧ u.1 89 (1017 + j) = s.1 92 (4 * j + 2) ∧ u.1 89 (1033 + j) = s.1 92 (4 * j + 3)) ∧ ∀ k, k ≠ 117 → (k < 985 ∨ 1049 ≤ k) → u.1 89 k = s.1 89 k
theorem E_putsLaw {s : mG} {L nc : Nat} (hL : L ≤ 16) (hn : nc ≤ 400) (h12 : s.1 88 12 = cn L) (h13 : s.1 88 13 = cn nc) : pk (F_X12_putsLaw s) (fun τ => τ.1 = cn L ∧ ∃ u : mG, PLn L L s u ∧ (∀ j, j ≠ 89 → τ.2.1 j = s.1 j) ∧ τ.2.1 89 = ovr 1050 (2 * nc) (s.1 93) (u.1 89)) := by
  unfold F_X12_putsLaw F_X12_putsLaw_L13
  rw [h12]
  dsimp only
  have e2 : (ci 2) * cn nc = cn (2 * nc) := cn_mul (a := 2) (by omega) (by omega) (by omega)
  refine pk_whl (fun v => ∃ n, n ≤ L ∧ v.1 = cn n ∧ PLn n L s v.2) ⟨0, by omega, rfl, fun j hj => mu_row hj, (mu_same : mu s.1 89 117 (cn L) 89 117 = cn L), fun j hj => absurd hj (by omega), fun k h1 _ => (mu_cell (Or.inr h1) : mu s.1 89 117 (cn L) 89 k = s.1 89 k)⟩ (fun v hv => ?_)
  obtain ⟨x1, u⟩ := v
  obtain ⟨n, hnL, e1, hP⟩ := hv
  have e1 : x1 = cn n := e1
  have hP : PLn n L s u := hP
  subst e1
  obtain ⟨r, c117, c, o⟩ := hP
  have k12 : u.1 88 12 = cn L := by rw [r 88 (by decide)]; exact h12
  unfold F_X12_putsLaw_B13
  dsimp only
  rw [k12]
  by_cases hl : n = L
  · subst hl
    rw [if_pos ((cn_le (by omega) (by omega)).mpr (by omega))]
    refine pk_b1r ?_
    unfold F_X12_putsLaw_L107
    refine pk_whl (fun v => ∃ m, m ≤ 2 * nc ∧ v.1 = cn m ∧ (∀ j, j ≠ 89 → v.2.1 j = s.1 j) ∧ v.2.1 89 = ovr 1050 m (s.1 93) (u.1 89)) ⟨0, by omega, rfl, r, ovr_0.symm⟩ (fun v hv => ?_)
    obtain ⟨x1, w⟩ := v
    obtain ⟨m, hm, g1, r2, g89⟩ := hv
    have g1 : x1 = cn m := g1
    have r2 : ∀ j, j ≠ 89 → w.1 j = s.1 j := r2
    have g89 : w.1 89 = ovr 1050 m (s.1 93) (u.1 89) := g89
    subst g1
    have w13 : w.1 88 13 = cn nc := by rw [r2 88 (by decide)]; exact h13
    have w12 : w.1 88 12 = cn n := by rw [r2 88 (by decide)]; exact h12
    unfold F_X12_putsLaw_B107
    dsimp only
    rw [w13, e2]
    by_cases hm2 : m = 2 * nc
    · subst hm2
      rw [if_pos ((cn_le (by omega) (by omega)).mpr (by omega))]
      exact pk_some (show _ ∧ _ from ⟨w12, u, ⟨r, c117, c, o⟩, r2, g89⟩)
    · rw [if_neg (fun q => hm2 (by have := (cn_le (by omega) (by omega)).mp q; omega)), show c16 1050 + cn m = cn (1050 + m) from cn_add (a := 1050) (by omega), if_neg (cn_ix (by omega) (by omega)), if_neg (cn_ix (by omega) (by omega)), cn_nat (by omega), cn_nat (by omega), cnu (by omega)]
      exact pk_some (show ∃ _, _ from ⟨m + 1, by omega, rfl, fun j hj => (mu_row hj).trans (r2 j hj), ovr_up g89 (by rw [r2 93 (by decide)])⟩)
  · have p4 : (ci 4) * cn n = cn (4 * n) := cn_mul (a := 4) (by omega) (by omega) (by omega)
    have p1 : cn (4 * n) + ci 1 = cn (4 * n + 1) := cn_add (b := 1) (by omega)
    have p2 : cn (4 * n) + ci 2 = cn (4 * n + 2) := cn_add (b := 2) (by omega)
    have p3 : cn (4 * n) + ci 3 = cn (4 * n + 3) := cn_add (b := 3) (by omega)
    have w0 : c16 985 + cn n = cn (985 + n) := cn_add (a := 985) (by omega)
    have w1 : c16 1001 + cn n = cn (1001 + n) := cn_add (a := 1001) (by omega)
    have w2 : c16 1017 + cn n = cn (1017 + n) := cn_add (a := 1017) (by omega)
    have w3 : c16 1033 + cn n = cn (1033 + n) := cn_add (a := 1033) (by omega)
    rw [if_neg (fun q => hl (by have := (cn_le (by omega) (by omega)).mp q; omega)), p4, p1, p2, p3, w0, w1, w2, w3, cnu (by omega)]
    rw [cn_nat (n := 4 * n) (by omega), cn_nat (n := 4 * n + 1) (by omega), cn_nat (n := 4 * n + 2) (by omega), cn_nat (n := 4 * n + 3) (by omega), cn_nat (n := 985 + n) (by omega), cn_nat (n := 1001 + n) (by omega), cn_nat (n := 1017 + n) (by omega), cn_nat (n := 1033 + n) (by omega)]
    have nn : ∀ a b : Nat, a < b → b < 2147483648 → ¬ (cn a < 0 ∨ b ≤ a) := fun a b h1 h2 => fun q => q.elim (cn_nn (by omega)) (by omega)
    rw [if_neg (nn (4 * n) 64 (by omega) (by omega)), if_neg (nn (985 + n) 1894 (by omega) (by omega)), if_neg (nn (4 * n + 1) 64 (by omega) (by omega)), if_neg (nn (1001 + n) 1894 (by omega) (by omega)), if_neg (nn (4 * n + 2) 64 (by omega) (by omega)), if_neg (nn (1017 + n) 1894 (by omega) (by omega)), if_neg (nn (4 * n + 3) 64 (by omega) (by omega)), if_neg (nn (1033 + n) 1894 (by omega) (by omega))]
    refine pk_some (show ∃ _, _ from ⟨n + 1, by omega, rfl, fun j hj => ?_, ?_, fun j hj => ?_, fun k h1 h2 => ?_⟩)
    all_goals dsimp only
    · rw [mu_row hj, mu_row hj, mu_row hj, mu_row hj]; exact r j hj
    · rw [mu_cell (by omega), mu_cell (by omega), mu_cell (by omega), mu_cell (by omega)]; exact c117
    · simp only [mu_row (show (92 : Nat) ≠ 89 by decide)]
      have r92 : u.1 92 = s.1 92 := r 92 (by decide)
      rw [r92]
      by_cases e : j = n
      · subst e
        refine ⟨?_, ?_, ?_, ?_⟩
        · rw [mu_cell (by omega), mu_cell (by omega), mu_cell (by omega)]; exact mu_same
        · rw [mu_cell (by omega), mu_cell (by omega)]; exact mu_same
        · rw [mu_cell (by omega)]; exact mu_same
        · exact mu_same
      · obtain ⟨c0, c1, c2, c3⟩ := c j (by omega)
        refine ⟨?_, ?_, ?_, ?_⟩
        · rw [mu_cell (by omega), mu_cell (by omega), mu_cell (by omega), mu_cell (by omega)]; exact c0
        · rw [mu_cell (by omega), mu_cell (by omega), mu_cell (by omega), mu_cell (by omega)]; exact c1
        · rw [mu_cell (by omega), mu_cell (by omega), mu_cell (by omega), mu_cell (by omega)]; exact c2
        · rw [mu_cell (by omega), mu_cell (by omega), mu_cell (by omega), mu_cell (by omega)]; exact c3
    · rw [mu_cell (by omega), mu_cell (by omega), mu_cell (by omega), mu_cell (by omega)]; exact o k h1 h2
end
end
/-! 5y.tables -/
section
noncomputable section
/-! A TABLE OF THE CLASS AND ITS PLACE IN A ROW OF THE REFERENCE -/
/-- table t of width W, at most M rows, counted at cnt, its cell (r, c) at ix r c -/
def TWr (t W M cnt : Nat) (ix : Nat → Nat → Nat) (D : Nat → Nat → Int32) (w : Nat → Int32) : Prop := D t 0 = cn M ∧ D t 1 = cn W ∧ ∃ n, n ≤ M ∧ D t 3 = cn n ∧ w cnt = cn n ∧ ∀ r c, r < n → c < W → D (t + 1) (r * W + c) = w (ix r c)
theorem TWr_same {t W M cnt : Nat} {ix : Nat → Nat → Nat} {D D' : Nat → Nat → Int32} {w w' : Nat → Int32} (h : TWr t W M cnt ix D w) (e0 : D' t = D t) (e1 : D' (t + 1) = D (t + 1)) (ec : w' cnt = w cnt) (ew : ∀ r c, r < M → c < W → w' (ix r c) = w (ix r c)) : TWr t W M cnt ix D' w' := by
  obtain ⟨h0, h1, n, hn, h3, hc, hx⟩ := h
  unfold TWr
  rw [e0, e1, ec]
  exact ⟨h0, h1, n, hn, h3, hc, fun r c hr hcc => (hx r c hr hcc).trans (ew r c (by omega) hcc).symm⟩
/-- a cell is put on both sides -/
theorem TWr_put {t W M cnt : Nat} {ix : Nat → Nat → Nat} {D D' : Nat → Nat → Int32} {w w' : Nat → Int32} {n r c : Nat} {v : Int32} (h : TWr t W M cnt ix D w) (h3 : D t 3 = cn n) (hr : r < n) (hc : c < W) (hM : M < 2147483648)
    (e0 : D' t = D t) (e1 : ∀ k, D' (t + 1) k = if k = r * W + c then v else D (t + 1) k) (ec : w' cnt = w cnt) (ew : ∀ r' c', r' < M → c' < W → w' (ix r' c') = if r' = r ∧ c' = c then v else w (ix r' c')) : TWr t W M cnt ix D' w' := by
  obtain ⟨h0, h1, m, hm, g3, gc, hx⟩ := h
  have hmn : n = m ∨ ¬ n = m := by omega
  unfold TWr
  rw [e0, ec]
  refine ⟨h0, h1, m, hm, g3, gc, fun r' c' hr' hc' => ?_⟩
  rw [e1, ew r' c' (by omega) hc']
  have inj : r' * W + c' = r * W + c ↔ r' = r ∧ c' = c := by
    constructor
    · intro q
      have q1 : (r' * W + c') / W = (r * W + c) / W := by rw [q]
      rw [Nat.mul_comm r', Nat.mul_comm r, Nat.mul_add_div (by omega), Nat.mul_add_div (by omega), Nat.div_eq_of_lt hc', Nat.div_eq_of_lt hc] at q1
      have q2 : r' = r := by omega
      subst q2
      exact ⟨rfl, by omega⟩
    · intro q
      rw [q.1, q.2]
  by_cases q : r' = r ∧ c' = c
  · rw [if_pos (inj.mpr q), if_pos q]
  · rw [if_neg (fun e => q (inj.mp e)), if_neg q]
    exact hx r' c' hr' hc'
/-- a whole row is added on both sides -/
theorem TWr_add {t W M cnt : Nat} {ix : Nat → Nat → Nat} {D D' : Nat → Nat → Int32} {w w' : Nat → Int32} {n : Nat} (h : TWr t W M cnt ix D w) (h3 : D t 3 = cn n) (hn : n < M) (hM : M < 2147483648)
    (e0 : ∀ c, c ≠ 3 → D' t c = D t c) (e3 : D' t 3 = cn (n + 1)) (e1 : ∀ k, k < n * W → D' (t + 1) k = D (t + 1) k) (ec : w' cnt = cn (n + 1)) (ew : ∀ r c, r < n → c < W → w' (ix r c) = w (ix r c)) (en : ∀ c, c < W → D' (t + 1) (n * W + c) = w' (ix n c)) : TWr t W M cnt ix D' w' := by
  obtain ⟨h0, h1, m, hm, g3, gc, hx⟩ := h
  have e : m = n := (cn_inj (by omega) (by omega)).mp (g3.symm.trans h3)
  subst e
  refine ⟨(e0 0 (by decide)).trans h0, (e0 1 (by decide)).trans h1, m + 1, by omega, e3, ec, fun r c hr hc => ?_⟩
  by_cases q : r = m
  · rw [q]; exact en c hc
  · have hrw : r * W + c < m * W := by
      have h4 : (r + 1) * W ≤ m * W := Nat.mul_le_mul_right W (by omega)
      rw [Nat.add_mul, Nat.one_mul] at h4
      omega
    rw [e1 _ hrw, hx r c (by omega) hc, ew r c (by omega) hc]
/-- what a reading gives on both sides -/
theorem TWr_at {t W M cnt : Nat} {ix : Nat → Nat → Nat} {s : mG} {w : Nat → Int32} {a1 a2 : Int32} {n r c : Nat} (h : TWr t W M cnt ix s.1 w) (h3 : s.1 t 3 = cn n) (hn : n ≤ M) (hr : r < n) (hc : c < W) (h1 : a1 = cn r) (h2 : a2 = cn c) (hM : M < 2147483648) (hl : M * W ≤ m_alen (t + 1)) : F_X10_at t s a1 a2 = some (w (ix r c)) := by
  obtain ⟨_, g1, m, hm, g3, gc, hx⟩ := h
  have e : m = n := (cn_inj (by omega) (by omega)).mp (g3.symm.trans h3)
  subst e
  have hl2 : m * W ≤ m_alen (t + 1) := Nat.le_trans (Nat.mul_le_mul_right W hm) hl
  rw [V_at h1 h2 g1 g3 hr hc hl2 (by omega), hx r c hr hc]
/-! the tables of a house -/
def ixG (r c : Nat) : Nat := if c = 0 then 119 + r else if c = 1 then 131 + r else if c = 2 then 3 + r else if c = 3 then 15 + r else if c = 4 then 27 + r else 39 + 6 * r + (c - 5)
def ixB (r c : Nat) : Nat := 235 + 5 * r + c
def ixS (r c : Nat) : Nat := 143 + 2 * r + c
def ixH (r c : Nat) : Nat := 155 + 4 * r + c
def ixR (r c : Nat) : Nat := 203 + 4 * r + c
def ixC (r c : Nat) : Nat := 1870 + 3 * r + c
/-- the law's lines: the word is 20 more in the reference -/
def LWr (t : Nat) (D : Nat → Nat → Int32) (w : Nat → Int32) : Prop := D t 0 = cn 16 ∧ D t 1 = cn 4 ∧ ∃ n, n ≤ 16 ∧ D t 3 = cn n ∧ w 117 = cn n ∧ ∀ r, r < n → D (t + 1) (r * 4 + 1) = w (985 + r) ∧ D (t + 1) (r * 4 + 2) = w (1001 + r) ∧ D (t + 1) (r * 4 + 3) = w (1017 + r) ∧ ∃ x, x < 6 ∧ D (t + 1) (r * 4 + 0) = cn x ∧ w (1033 + r) = cn (20 + x)
/-- the law's steps -/
def CWr (t : Nat) (D : Nat → Nat → Int32) (w : Nat → Int32) : Prop := D t 0 = cn 400 ∧ D t 1 = cn 1 ∧ ∃ n, n ≤ 400 ∧ D t 3 = cn n ∧ ∀ j, j < n → EN (D (t + 1) j) (w (1050 + 2 * j)) (w (1050 + 2 * j + 1))
def HSr (h : Nat) (D : Nat → Nat → Int32) (w : Nat → Int32) : Prop := TWr (h + 1) 11 12 112 ixG D w ∧ TWr (h + 3) 5 150 2 ixB D w ∧ LWr (h + 5) D w ∧ CWr (h + 7) D w ∧ TWr (h + 9) 2 6 115 ixS D w ∧ TWr (h + 11) 4 12 116 ixH D w ∧ TWr (h + 13) 4 8 118 ixR D w ∧ TWr (h + 15) 3 8 1049 ixC D w ∧ D h 8 = w 113 ∧ D h 9 = w 114 ∧ D h 10 = w 0 ∧ D h 11 = w 1
end
end
/-! 5z.past -/
section
noncomputable section
/-! WHAT THE REFERENCE KEEPS OF THE PAST, cell by cell -/
theorem E_keeps49 {s : mG} {c : Nat} (hc : c ≤ 5) (h : s.1 88 3 = cn c) : pk (F_X12_keeps_49 s) (fun u => (∀ j, j ≠ 88 → j ≠ 91 → u.1 j = s.1 j) ∧ (∀ k, k ≠ 3 → u.1 88 k = s.1 88 k) ∧ u.1 88 3 = cn (c + 1) ∧ u.1 91 = ovr (112 * c) 112 (s.1 89) (s.1 91)) := by
  unfold F_X12_keeps_49 F_X12_keeps_L51
  refine pk_whl (fun v => ∃ n, n ≤ 112 ∧ v.1 = cn n ∧ (∀ j, j ≠ 91 → v.2.1 j = s.1 j) ∧ v.2.1 91 = ovr (112 * c) n (s.1 89) (s.1 91)) ⟨0, by omega, rfl, fun j hj => rfl, ovr_0.symm⟩ (fun v hv => ?_)
  obtain ⟨x1, u⟩ := v
  obtain ⟨n, hn, e1, r, e91⟩ := hv
  have e1 : x1 = cn n := e1
  have r : ∀ j, j ≠ 91 → u.1 j = s.1 j := r
  have e91 : u.1 91 = ovr (112 * c) n (s.1 89) (s.1 91) := e91
  subst e1
  have e3 : u.1 88 3 = cn c := by rw [r 88 (by decide)]; exact h
  have q112 : (c8 112 ≤ cn n) ↔ 112 ≤ n := cn_le (a := 112) (by omega) (by omega)
  unfold F_X12_keeps_B51
  dsimp only
  rw [e3]
  by_cases hl : n = 112
  · subst hl
    rw [if_pos (q112.mpr (by omega)), cnu (by omega)]
    refine pk_some (show _ ∧ _ from ⟨fun j h1 h2 => ?_, fun k hk => ?_, ?_, ?_⟩)
    · dsimp only
      rw [mu_row h1]; exact r j h2
    · dsimp only
      rw [mu_cell (Or.inr hk), r 88 (by decide)]
    · dsimp only
      exact mu_same
    · dsimp only
      rw [mu_row (by decide)]; exact e91
  · rw [if_neg (fun q => hl (by have := q112.mp q; omega)), show (c8 112) * cn c = cn (112 * c) from cn_mul (a := 112) (by omega) (by omega) (by omega), cn_add (by omega), if_neg (cn_ix (by omega) (by omega)), if_neg (cn_ix (by omega) (by omega)), cn_nat (by omega), cn_nat (by omega), cnu (by omega)]
    exact pk_some (show ∃ _, _ from ⟨n + 1, by omega, rfl, fun j hj => (mu_row hj).trans (r j hj), ovr_up e91 (by rw [r 89 (by decide)])⟩)
/-- five moments move down by one place -/
def shd (f : Nat → Int32) (n k : Nat) : Int32 := if k < n then f (k + 112) else f k
theorem E_keeps {s : mG} {c : Nat} (hc : c ≤ 6) (h : s.1 88 3 = cn c) : pk (F_X12_keeps s) (fun u => (∀ j, j ≠ 88 → j ≠ 91 → u.1 j = s.1 j) ∧ (∀ k, k ≠ 3 → u.1 88 k = s.1 88 k) ∧ u.1 88 3 = cn (if c < 6 then c + 1 else 6) ∧ u.1 91 = if c < 6 then ovr (112 * c) 112 (s.1 89) (s.1 91) else ovr 560 112 (s.1 89) (shd (s.1 91) 560)) := by
  unfold F_X12_keeps
  by_cases h6 : c = 6
  · subst h6
    rw [if_pos (h.trans (by decide)), if_neg (by omega), if_neg (by omega)]
    unfold F_X12_keeps_L11
    refine pk_whl (fun v => ∃ n, n ≤ 560 ∧ v.1 = cn n ∧ (∀ j, j ≠ 91 → v.2.1 j = s.1 j) ∧ v.2.1 91 = shd (s.1 91) n) ⟨0, by omega, rfl, fun j hj => rfl, by funext k; unfold shd; rw [if_neg (by omega)]⟩ (fun v hv => ?_)
    obtain ⟨x1, u⟩ := v
    obtain ⟨n, hn, e1, r, e91⟩ := hv
    have e1 : x1 = cn n := e1
    have r : ∀ j, j ≠ 91 → u.1 j = s.1 j := r
    have e91 : u.1 91 = shd (s.1 91) n := e91
    subst e1
    have e3 : u.1 88 3 = cn 6 := by rw [r 88 (by decide)]; exact h
    have q560 : (c16 560 ≤ cn n) ↔ 560 ≤ n := cn_le (a := 560) (by omega) (by omega)
    unfold F_X12_keeps_B11
    dsimp only
    rw [e3]
    by_cases hl : n = 560
    · subst hl
      rw [if_pos (q560.mpr (by omega)), show cn 6 - ci 1 = cn 5 by decide]
      refine pk_b1r (fun u2 hu2 => ?_)
      obtain ⟨k1, k2, k3, k4⟩ := E_keeps49 (s := (mu u.1 88 3 (cn 5), u.2)) (c := 5) (by omega) mu_sameP u2 hu2
      refine ⟨fun j h1 h2 => ?_, fun k hk => ?_, k3, ?_⟩
      · rw [k1 j h1 h2]
        dsimp only
        rw [mu_row h1]; exact r j h2
      · rw [k2 k hk]
        dsimp only
        rw [mu_cell (Or.inr hk), r 88 (by decide)]
      · rw [k4]
        dsimp only
        rw [mu_row (by decide), mu_row (by decide), e91, r 89 (by decide)]
    · rw [if_neg (fun q => hl (by have := q560.mp q; omega)), show cn n + c8 112 = cn (n + 112) from cn_add (b := 112) (by omega), if_neg (cn_ix (by omega) (by omega)), if_neg (cn_ix (by omega) (by omega)), cn_nat (by omega), cn_nat (by omega), cnu (by omega)]
      refine pk_some (show ∃ _, _ from ⟨n + 1, by omega, rfl, fun j hj => (mu_row hj).trans (r j hj), ?_⟩)
      funext k
      dsimp only
      rw [mu_ap, e91]
      unfold shd
      by_cases e : k = n
      · subst e
        rw [if_pos ⟨rfl, rfl⟩, if_neg (by omega), if_pos (by omega)]
      · rw [if_neg (fun q => e q.2)]
        by_cases q : k < n
        · rw [if_pos q, if_pos (by omega)]
        · rw [if_neg q, if_neg (by omega)]
  · have n6 : ¬ s.1 88 3 = c8 6 := fun q => h6 ((cn_inj (by omega) (by decide)).mp ((h.symm.trans q).trans (show c8 6 = cn 6 by decide)))
    rw [if_neg n6, if_pos (by omega), if_pos (by omega)]
    exact E_keeps49 (by omega) h
theorem E_undo {s : mG} {c : Nat} (hc : c ≤ 6) (h : s.1 88 3 = cn c) : pk (F_X12_undo s) (fun τ => (c = 0 ∧ τ = (ci 0, s)) ∨ (0 < c ∧ τ.1 = ci 1 ∧ (∀ j, j ≠ 88 → j ≠ 89 → τ.2.1 j = s.1 j) ∧ (∀ k, k ≠ 3 → τ.2.1 88 k = s.1 88 k) ∧ τ.2.1 88 3 = cn (c - 1) ∧ τ.2.1 89 = ovr 0 112 (fun k => s.1 91 (112 * (c - 1) + k)) (s.1 89))) := by
  unfold F_X12_undo
  by_cases h0 : c = 0
  · subst h0
    rw [if_pos (h.trans (by decide))]
    exact pk_some (Or.inl ⟨rfl, rfl⟩)
  · have n0 : ¬ s.1 88 3 = 0 := fun q => h0 ((cn_inj (by omega) (by omega)).mp ((h.symm.trans q).trans (show (0 : Int32) = cn 0 by decide)))
    rw [if_neg n0, h, show cn c - ci 1 = cn (c - 1) from cn_sub (a := c) (b := 1) (by omega) (by omega)]
    dsimp only
    unfold F_X12_undo_L21
    refine pk_whl (fun v => ∃ n, n ≤ 112 ∧ v.1 = cn n ∧ (∀ j, j ≠ 88 → j ≠ 89 → v.2.1 j = s.1 j) ∧ (∀ k, k ≠ 3 → v.2.1 88 k = s.1 88 k) ∧ v.2.1 88 3 = cn (c - 1) ∧ v.2.1 89 = ovr 0 n (fun k => s.1 91 (112 * (c - 1) + k)) (s.1 89)) ⟨0, by omega, rfl, fun j h1 _ => mu_row h1, fun k hk => (mu_cell (Or.inr hk) : mu s.1 88 3 (cn (c - 1)) 88 k = s.1 88 k), (mu_same : mu s.1 88 3 (cn (c - 1)) 88 3 = cn (c - 1)), (mu_row (by decide) : mu s.1 88 3 (cn (c - 1)) 89 = s.1 89).trans ovr_0.symm⟩ (fun v hv => ?_)
    obtain ⟨x1, u⟩ := v
    obtain ⟨n, hn, e1, r, r8, e3, e89⟩ := hv
    have e1 : x1 = cn n := e1
    have r : ∀ j, j ≠ 88 → j ≠ 89 → u.1 j = s.1 j := r
    have r8 : ∀ k, k ≠ 3 → u.1 88 k = s.1 88 k := r8
    have e3 : u.1 88 3 = cn (c - 1) := e3
    have e89 : u.1 89 = ovr 0 n (fun k => s.1 91 (112 * (c - 1) + k)) (s.1 89) := e89
    subst e1
    have q112 : (c8 112 ≤ cn n) ↔ 112 ≤ n := cn_le (a := 112) (by omega) (by omega)
    unfold F_X12_undo_B21
    dsimp only
    rw [e3]
    by_cases hl : n = 112
    · subst hl
      rw [if_pos (q112.mpr (by omega))]
      exact pk_some (show _ ∨ _ from Or.inr ⟨by omega, rfl, r, r8, e3, e89⟩)
    · rw [if_neg (fun q => hl (by have := q112.mp q; omega)), show (c8 112) * cn (c - 1) = cn (112 * (c - 1)) from cn_mul (a := 112) (by omega) (by omega) (by omega), cn_add (by omega), if_neg (cn_ix (by omega) (by omega)), if_neg (cn_ix (by omega) (by omega)), cn_nat (by omega), cn_nat (by omega), cnu (by omega)]
      have d8 : mu u.1 89 n (u.1 91 (112 * (c - 1) + n)) 88 = u.1 88 := mu_row (by decide)
      refine pk_some (show ∃ _, _ from ⟨n + 1, by omega, rfl, fun j h1 h2 => (mu_row h2).trans (r j h1 h2), fun k hk => (congrFun d8 k).trans (r8 k hk), (congrFun d8 3).trans e3, ?_⟩)
      have q := ovr_up (p := 0) (n := n) e89 (v := u.1 91 (112 * (c - 1) + n)) (by rw [r 91 (by decide) (by decide)])
      rw [Nat.zero_add] at q
      exact q
end
end
/-! 5z1.keep -/
section
noncomputable section
/-! THE PAST ON BOTH SIDES -/
/-- moment m of the class, n guests, is what W keeps; its floors and its second cells are those of the house -/
def MOr (m n : Nat) (D : Nat → Nat → Int32) (W : Nat → Int32) : Prop := D (37 + 3 * m) 1 = W 2 ∧ D (37 + 3 * m) 2 = W 0 ∧ D (37 + 3 * m) 3 = W 1 ∧ D (37 + 3 * m + 1) 3 = cn n ∧ ∀ r c, r < n → c < 11 → D (37 + 3 * m + 1 + 1) (r * 11 + c) = if c < 2 then D 3 (r * 11 + c) else W (ixG r c)
/-- the shape of a moment's table -/
def MSh (t : Nat) (D : Nat → Nat → Int32) : Prop := D t 0 = cn 12 ∧ D t 1 = cn 11 ∧ ∃ k, k ≤ 12 ∧ D t 3 = cn k
theorem MSh_row {t : Nat} {D D' : Nat → Nat → Int32} (h : MSh t D) (e : D' t = D t) : MSh t D' := by
  unfold MSh
  rw [e]
  exact h
/-- what holds of a guest's cells: out or in, a key only of him who is out, the hours since -/
def VIg (f : Nat → Int32) (g : Nat) : Prop := (f (3 + g) = ci 0 ∨ f (3 + g) = ci 1) ∧ (f (3 + g) = ci 0 → f (15 + g) = ci (-1)) ∧ 0 ≤ (f (27 + g)).toInt ∧ (f (27 + g)).toInt ≤ 999
def VIm (n : Nat) (f : Nat → Int32) : Prop := 0 ≤ (f 0).toInt ∧ (f 0).toInt ≤ 9999 ∧ ∀ g, g < n → VIg f g
theorem VIm_congr {n : Nat} {f f' : Nat → Int32} (hn : n ≤ 12) (e : ∀ k, k < 112 → f' k = f k) (h : VIm n f) : VIm n f' := by
  obtain ⟨h1, h2, h3⟩ := h
  unfold VIm
  rw [e 0 (by omega)]
  refine ⟨h1, h2, fun g hg => ?_⟩
  unfold VIg
  rw [e (3 + g) (by omega), e (15 + g) (by omega), e (27 + g) (by omega)]
  exact h3 g hg
def PSr (D : Nat → Nat → Int32) (w88 w91 : Nat → Int32) : Prop := ∃ (c t n nb : Nat) (bk : Nat → Nat), c ≤ 6 ∧ t < 6 ∧ n ≤ 12 ∧ nb ≤ 150 ∧ D 35 1 = cn c ∧ D 35 2 = cn t ∧ w88 3 = cn c ∧ D 2 3 = cn n ∧ D 4 3 = cn nb ∧ (∀ i, i < c → bk i ≤ nb ∧ w91 (112 * i + 2) = cn (bk i)) ∧ (∀ i, i + 1 < c → bk i ≤ bk (i + 1)) ∧ (∀ i, i < 6 → MSh (37 + 3 * i + 1) D) ∧ ∀ i, i < c → MOr ((t + 6 - c + i) % 6) n D (fun k => w91 (112 * i + k)) ∧ VIm n (fun k => w91 (112 * i + k))
theorem ixG_b {r c : Nat} (hr : r < 12) (h2 : ¬ c < 2) (hc : c < 11) : ixG r c < 112 := by
  unfold ixG
  rw [if_neg (by omega), if_neg (by omega)]
  by_cases e2 : c = 2
  · rw [if_pos e2]; omega
  rw [if_neg e2]
  by_cases e3 : c = 3
  · rw [if_pos e3]; omega
  rw [if_neg e3]
  by_cases e4 : c = 4
  · rw [if_pos e4]; omega
  rw [if_neg e4]; omega
/-- both keep -/
theorem PSr_keep {s u : mG} {w w88 w91 w88' w91' : Nat → Int32} {c t n nb : Nat} {bk : Nat → Nat} (hH : HSr 1 s.1 w) (hc : c ≤ 6) (ht : t < 6) (hn : n ≤ 12) (p1 : s.1 35 1 = cn c) (p2 : s.1 35 2 = cn t) (p3 : s.1 2 3 = cn n) (hnb : nb ≤ 150) (p4 : s.1 4 3 = cn nb) (hb : ∀ i, i < c → bk i ≤ nb ∧ w91 (112 * i + 2) = cn (bk i)) (hb2 : ∀ i, i + 1 < c → bk i ≤ bk (i + 1)) (hm : ∀ i, i < 6 → MSh (37 + 3 * i + 1) s.1) (hP : ∀ i, i < c → MOr ((t + 6 - c + i) % 6) n s.1 (fun k => w91 (112 * i + k)) ∧ VIm n (fun k => w91 (112 * i + k))) (hV : VIm n w) (hK : KEo t c n s u) (k3 : w88' 3 = cn (if c < 6 then c + 1 else 6)) (k91 : w91' = if c < 6 then ovr (112 * c) 112 w w91 else ovr 560 112 w (shd w91 560)) : PSr u.1 w88' w91' := by
  obtain ⟨_, y2, y3, y4, y5, y6, y7, y8, y9, y10⟩ := hK
  obtain ⟨⟨_, _, ng, hng, g3, gc, gx⟩, ⟨_, _, nb2, hnb2, b3, bc, _⟩, _, _, _, _, _, _, _, _, h10, h11⟩ := hH
  have eng : ng = n := (cn_inj (by omega) (by omega)).mp (g3.symm.trans p3)
  subst eng
  have enb : nb2 = nb := (cn_inj (by omega) (by omega)).mp (b3.symm.trans p4)
  subst enb
  have r2 : u.1 2 = s.1 2 := y2 2 (by decide) (by omega)
  have r3 : u.1 3 = s.1 3 := y2 3 (by decide) (by omega)
  -- the new moment
  have new : MOr t ng u.1 w := by
    refine ⟨y6.trans (b3.trans bc.symm), y7.trans h10, y8.trans h11, y4.trans p3, fun r c' hr hc' => ?_⟩
    rw [y5 (r * 11 + c') (by omega), r3]
    by_cases h2 : c' < 2
    · rw [if_pos h2]
    · rw [if_neg h2]; exact gx r c' hr hc'
  -- an old one that is not overwritten
  have old : ∀ m W, m < 6 → m ≠ t → MOr m ng s.1 W → MOr m ng u.1 W := fun m W hm6 hmt q => by
    have e0 : u.1 (37 + 3 * m) = s.1 (37 + 3 * m) := y2 _ (by omega) (by omega)
    have e1 : u.1 (37 + 3 * m + 1) = s.1 (37 + 3 * m + 1) := y2 _ (by omega) (by omega)
    have e2 : u.1 (37 + 3 * m + 1 + 1) = s.1 (37 + 3 * m + 1 + 1) := y2 _ (by omega) (by omega)
    unfold MOr
    rw [e0, e1, e2, r3]
    exact q
  -- a moment by what it keeps below 112
  have cong : ∀ m W W', (∀ k, k < 112 → W' k = W k) → MOr m ng u.1 W → MOr m ng u.1 W' := fun m W W' hw q => by
    obtain ⟨q1, q2, q3, q4, q5⟩ := q
    refine ⟨q1.trans (hw 2 (by omega)).symm, q2.trans (hw 0 (by omega)).symm, q3.trans (hw 1 (by omega)).symm, q4, fun r c' hr hc' => ?_⟩
    rw [q5 r c' hr hc']
    by_cases h2 : c' < 2
    · rw [if_pos h2, if_pos h2]
    · rw [if_neg h2, if_neg h2, hw _ (ixG_b (by omega) h2 hc')]
  refine ⟨if c < 6 then c + 1 else 6, (t + 1) % 6, ng, nb2, if c < 6 then (fun i => if i = c then nb2 else bk i) else (fun i => if i = 5 then nb2 else bk (i + 1)), by split <;> omega, by omega, hn, hnb, y9, y10, k3, by rw [r2]; exact p3, ?_, fun i hi => ?_, fun i hi => ?_, fun i hi => ?_, fun i hi => ?_⟩
  · rw [y2 4 (by decide) (by omega)]; exact p4
  · by_cases h6 : c < 6
    · rw [if_pos h6] at hi k91 ⊢
      try dsimp only
      by_cases e : i = c
      · rw [if_pos e, k91, e]
        unfold ovr
        rw [if_pos (by omega), show 112 * c + 2 - 112 * c = 2 by omega]
        exact ⟨Nat.le_refl _, bc⟩
      · rw [if_neg e, k91]
        unfold ovr
        rw [if_neg (by omega)]
        exact hb i (by omega)
    · have hc6 : c = 6 := by omega
      subst hc6
      rw [if_neg h6] at hi k91 ⊢
      try dsimp only
      by_cases e : i = 5
      · rw [if_pos e, k91, e]
        unfold ovr
        rw [if_pos (by omega), show 112 * 5 + 2 - 560 = 2 by omega]
        exact ⟨Nat.le_refl _, bc⟩
      · rw [if_neg e, k91]
        unfold ovr shd
        rw [if_neg (by omega), if_pos (by omega), show 112 * i + 2 + 112 = 112 * (i + 1) + 2 by omega]
        exact hb (i + 1) (by omega)
  · by_cases h6 : c < 6
    · rw [if_pos h6] at hi ⊢
      try dsimp only
      rw [if_neg (show ¬ i = c by omega)]
      by_cases e : i + 1 = c
      · rw [if_pos e]; exact (hb i (by omega)).1
      · rw [if_neg e]; exact hb2 i (by omega)
    · rw [if_neg h6] at hi ⊢
      try dsimp only
      rw [if_neg (show ¬ i = 5 by omega)]
      by_cases e : i + 1 = 5
      · rw [if_pos e]; exact (hb (i + 1) (by omega)).1
      · rw [if_neg e]; exact hb2 (i + 1) (by omega)
  · by_cases e : i = t
    · subst e
      have q := hm i hi
      exact ⟨(y3 0 (by decide)).trans q.1, (y3 1 (by decide)).trans q.2.1, ng, hn, y4.trans p3⟩
    · exact MSh_row (hm i hi) (y2 (37 + 3 * i + 1) (by omega) (by omega))
  · by_cases h6 : c < 6
    · rw [if_pos h6] at hi k91 ⊢
      by_cases e : i = c
      · subst e
        rw [show ((t + 1) % 6 + 6 - (i + 1) + i) % 6 = t by omega]
        have ek : ∀ k, k < 112 → (fun k => w91' (112 * i + k)) k = w k := fun k hk => by
          show w91' (112 * i + k) = w k
          rw [k91]
          unfold ovr
          rw [if_pos (by omega), show 112 * i + k - 112 * i = k by omega]
        exact ⟨cong t w _ ek new, VIm_congr hn ek hV⟩
      · rw [show ((t + 1) % 6 + 6 - (c + 1) + i) % 6 = (t + 6 - c + i) % 6 by omega]
        have ek : ∀ k, k < 112 → (fun k => w91' (112 * i + k)) k = (fun k => w91 (112 * i + k)) k := fun k hk => by
          show w91' (112 * i + k) = w91 (112 * i + k)
          rw [k91]
          unfold ovr
          rw [if_neg (by omega)]
        exact ⟨cong _ (fun k => w91 (112 * i + k)) _ ek (old _ _ (by omega) (by omega) (hP i (by omega)).1), VIm_congr hn ek (hP i (by omega)).2⟩
    · have hc6 : c = 6 := by omega
      subst hc6
      rw [if_neg h6] at hi k91 ⊢
      by_cases e : i = 5
      · subst e
        rw [show ((t + 1) % 6 + 6 - 6 + 5) % 6 = t by omega]
        have ek : ∀ k, k < 112 → (fun k => w91' (112 * 5 + k)) k = w k := fun k hk => by
          show w91' (112 * 5 + k) = w k
          rw [k91]
          unfold ovr
          rw [if_pos (by omega), show 112 * 5 + k - 560 = k by omega]
        exact ⟨cong t w _ ek new, VIm_congr hn ek hV⟩
      · rw [show ((t + 1) % 6 + 6 - 6 + i) % 6 = (t + 6 - 6 + (i + 1)) % 6 by omega]
        have ek : ∀ k, k < 112 → (fun k => w91' (112 * i + k)) k = (fun k => w91 (112 * (i + 1) + k)) k := fun k hk => by
          show w91' (112 * i + k) = w91 (112 * (i + 1) + k)
          rw [k91]
          unfold ovr shd
          rw [if_neg (by omega), if_pos (by omega), show 112 * i + k + 112 = 112 * (i + 1) + k by omega]
        exact ⟨cong _ (fun k => w91 (112 * (i + 1) + k)) _ ek (old _ _ (by omega) (by omega) (hP (i + 1) (by omega)).1), VIm_congr hn ek (hP (i + 1) (by omega)).2⟩
end
end
/-! 5z2.undo -/
section
noncomputable section
/-! THE LAST MOMENT GIVEN BACK on both sides -/
/-- the class's giveBack, cell by cell: l its place, n guests, b and nb the book's rows kept and now -/
def GBo (l c n : Nat) (bk : Nat) (s u : mG) : Prop := (∀ i, i ≠ 1 → i ≠ 2 → i ≠ 3 → i ≠ 4 → i ≠ 35 → u.1 i = s.1 i) ∧ (∀ j, u.1 2 j = s.1 2 j) ∧ (∀ j, j < n * 11 → u.1 3 j = s.1 (37 + 3 * l + 1 + 1) j) ∧ (∀ j, j ≠ 3 → u.1 4 j = s.1 4 j) ∧ u.1 4 3 = cn bk ∧ (∀ j, j ≠ 10 → j ≠ 11 → u.1 1 j = s.1 1 j) ∧ u.1 1 10 = s.1 (37 + 3 * l) 2 ∧ u.1 1 11 = s.1 (37 + 3 * l) 3 ∧ u.1 35 2 = cn l ∧ u.1 35 1 = cn (c - 1)
theorem V_giveBackE {s : mG} {c t n nb bk : Nat} (hc : c ≤ 6) (h0 : 0 < c) (ht : t < 6) (hn : n ≤ 12) (hnb : nb ≤ 150) (hbk : bk ≤ nb) (p1 : s.1 35 1 = cn c) (p2 : s.1 35 2 = cn t) (w0 : s.1 2 0 = cn 12) (w1 : s.1 2 1 = cn 11) (p3 : s.1 2 3 = cn n) (p4 : s.1 4 3 = cn nb) (m1 : s.1 (37 + 3 * ((t + 5) % 6)) 1 = cn bk) (m3 : s.1 (37 + 3 * ((t + 5) % 6) + 1) 3 = cn n) : pk (F_X5_giveBack 1 s) (fun τ => τ.1 = ci 1 ∧ GBo ((t + 5) % 6) c n bk s τ.2) := by
  unfold F_X5_giveBack F_X5_giveBack_30
  dsimp only
  rw [p2, rm_dn t ht, V_moment rfl (Nat.mod_lt _ (by decide)), bo_some, p1]
  have hl : (t + 5) % 6 < 6 := Nat.mod_lt _ (by decide)
  have n0 : ¬ cn c = 0 := fun q => by
    have := (cn_inj (a := c) (b := 0) (by omega) (by omega)).mp (q.trans (show (0 : Int32) = cn 0 by decide))
    omega
  rw [if_neg n0]
  generalize (t + 5) % 6 = l at *
  unfold F_X4_giveTo
  have hcp := V_copy (t := 1 + 1) (a := 37 + 3 * l + 1) (s := s) (n := n) (m := 12) (W := 11) (by omega) w0 m3 w1 hn (by decide) (by rw [show 1 + 1 + 1 = 2 + 1 by rfl, al_3]; omega) (by rw [al_mo l hl]; omega) (by decide)
  rw [b1_b1]
  refine pk_b1 hcp (fun u hu => ?_)
  obtain ⟨_, c2, c3, c4, c5, c6⟩ := hu
  rw [b1_some]
  dsimp only
  have e4 : u.1 (1 + 3) 3 = cn nb := (congrFun (c2 4 (by omega) (by omega)) 3).trans p4
  have em1 : u.1 (37 + 3 * l) 1 = cn bk := (congrFun (c2 (37 + 3 * l) (by omega) (by omega)) 1).trans m1
  have e2 : u.1 (37 + 3 * l) 2 = s.1 (37 + 3 * l) 2 := congrFun (c2 (37 + 3 * l) (by omega) (by omega)) 2
  have e3 : u.1 (37 + 3 * l) 3 = s.1 (37 + 3 * l) 3 := congrFun (c2 (37 + 3 * l) (by omega) (by omega)) 3
  have e35 : u.1 35 1 = cn c := (congrFun (c2 35 (by omega) (by omega)) 1).trans p1
  have emin : imin (cn bk) (cn nb) = cn bk := by rw [imin_cn (by omega) (by omega), Nat.min_eq_left hbk]
  rw [e4, em1, emin, mu_row (j := 37 + 3 * l) (i := 1 + 3) (by omega), e2, mu_row (j := 37 + 3 * l) (i := 1) (by omega), mu_row (j := 37 + 3 * l) (i := 1 + 3) (by omega), e3]
  have k35 : mu (mu (mu (mu u.1 (1 + 3) 3 (cn bk)) 1 10 (s.1 (37 + 3 * l) 2)) 1 11 (s.1 (37 + 3 * l) 3)) 35 2 (cn l) 35 1 - ci 1 = cn (c - 1) := by
    rw [mu_cell (by decide), mu_row (by decide), mu_row (by decide), mu_row (by decide), e35]
    exact cn_sub (a := c) (b := 1) (by omega) (by omega)
  rw [k35]
  refine pk_some ⟨rfl, fun i h1 h2 h3 h4 h5 => ?_, fun j => ?_, fun j hj => ?_, fun j hj => ?_, ?_, fun j h1 h2 => ?_, ?_, ?_, ?_, ?_⟩
  all_goals dsimp only
  · rw [mu_row h5, mu_row h5, mu_row h1, mu_row h1, mu_row (by omega)]; exact c2 i h2 (by omega)
  · rw [mu_row (by decide), mu_row (by decide), mu_row (by decide), mu_row (by decide), mu_row (by decide)]
    by_cases e : j = 3
    · rw [e]; exact c4.trans (m3.trans p3.symm)
    · exact c3 j e
  · rw [mu_row (by decide), mu_row (by decide), mu_row (by decide), mu_row (by decide), mu_row (by decide)]; exact c5 j hj
  · rw [mu_row (by decide), mu_row (by decide), mu_row (by decide), mu_row (by decide), mu_cell (Or.inr hj)]; exact congrFun (c2 4 (by omega) (by omega)) j
  · rw [mu_row (by decide), mu_row (by decide), mu_row (by decide), mu_row (by decide)]; exact mu_same
  · rw [mu_row (by decide), mu_row (by decide), mu_cell (Or.inr h2), mu_cell (Or.inr h1), mu_row (by decide)]; exact congrFun (c2 1 (by omega) (by omega)) j
  · rw [mu_row (by decide), mu_row (by decide), mu_cell (by decide)]; exact mu_same
  · rw [mu_row (by decide), mu_row (by decide)]; exact mu_same
  · rw [mu_cell (by decide)]; exact mu_same
  · exact mu_same
theorem bk_mono {bk : Nat → Nat} {c : Nat} (h : ∀ i, i + 1 < c → bk i ≤ bk (i + 1)) : ∀ j i, i + j < c → bk i ≤ bk (i + j) := by
  intro j
  induction j with
  | zero => intro i _; exact Nat.le_refl _
  | succ j ih =>
    intro i hi
    exact Nat.le_trans (ih i (by omega)) (h (i + j) (by omega))
/-- both give back -/
theorem PSr_undo {s u : mG} {w w88' w91 : Nat → Int32} {c t n nb : Nat} {bk : Nat → Nat} (hH : HSr 1 s.1 w) (hc : c ≤ 6) (h0 : 0 < c) (ht : t < 6) (hn : n ≤ 12) (hnb : nb ≤ 150) (p3 : s.1 2 3 = cn n) (p4 : s.1 4 3 = cn nb) (hb : ∀ i, i < c → bk i ≤ nb ∧ w91 (112 * i + 2) = cn (bk i)) (hb2 : ∀ i, i + 1 < c → bk i ≤ bk (i + 1)) (hm : ∀ i, i < 6 → MSh (37 + 3 * i + 1) s.1) (hP : ∀ i, i < c → MOr ((t + 6 - c + i) % 6) n s.1 (fun k => w91 (112 * i + k)) ∧ VIm n (fun k => w91 (112 * i + k))) (hG : GBo ((t + 5) % 6) c n (bk (c - 1)) s u) (k3 : w88' 3 = cn (c - 1)) : HSr 1 u.1 (ovr 0 112 (fun k => w91 (112 * (c - 1) + k)) w) ∧ PSr u.1 w88' w91 ∧ VIm n (ovr 0 112 (fun k => w91 (112 * (c - 1) + k)) w) := by
  obtain ⟨y1, y2, y3, y4, y5, y6, y7, y8, y9, y10⟩ := hG
  obtain ⟨⟨g0, g1, ng, hng, g3, gc, gx⟩, ⟨b0, b1', nb2, hnb2, b3, bc, bx⟩, t3, t4, t5, t6, t7, t8, h8, h9, h10, h11⟩ := hH
  have eng : ng = n := (cn_inj (by omega) (by omega)).mp (g3.symm.trans p3)
  subst eng
  have enb : nb2 = nb := (cn_inj (by omega) (by omega)).mp (b3.symm.trans p4)
  subst enb
  have el : (t + 6 - c + (c - 1)) % 6 = (t + 5) % 6 := by omega
  obtain ⟨⟨m1, m2, m3, m4, m5⟩, mV⟩ := hP (c - 1) (by omega)
  rw [el] at m1 m2 m3 m4 m5
  have lo : ∀ k, k < 112 → ovr 0 112 (fun k => w91 (112 * (c - 1) + k)) w k = w91 (112 * (c - 1) + k) := fun k hk => by
    unfold ovr
    rw [if_pos (by omega), Nat.sub_zero]
  have hi : ∀ k, 112 ≤ k → ovr 0 112 (fun k => w91 (112 * (c - 1) + k)) w k = w k := fun k hk => by
    unfold ovr
    rw [if_neg (by omega)]
  have r : ∀ j, 5 ≤ j → j ≠ 35 → u.1 j = s.1 j := fun j hj h35 => y1 j (by omega) (by omega) (by omega) (by omega) h35
  have fl : ∀ r' c', r' < ng → c' < 2 → u.1 3 (r' * 11 + c') = s.1 3 (r' * 11 + c') := fun r' c' hr hcc => by
    rw [y3 _ (by omega), m5 r' c' hr (by omega), if_pos hcc]
  have hb' := (hb (c - 1) (by omega))
  refine ⟨⟨⟨(y2 0).trans g0, (y2 1).trans g1, ng, hng, (y2 3).trans g3, (hi 112 (by omega)).trans gc, fun r' c' hr hcc => ?_⟩, ⟨(y4 0 (by decide)).trans b0, (y4 1 (by decide)).trans b1', bk (c - 1), by omega, y5, (lo 2 (by omega)).trans hb'.2, fun r' c' hr hcc => ?_⟩, ?_, ?_, ?_, ?_, ?_, ?_, ?_, ?_, ?_, ?_⟩, ?_, VIm_congr hn (fun k hk => lo k hk) mV⟩
  · by_cases h2 : c' < 2
    · rw [show (1 + 1 + 1 : Nat) = 3 from rfl, fl r' c' hr h2, gx r' c' hr hcc]
      refine (hi _ ?_).symm
      unfold ixG
      by_cases e0 : c' = 0
      · rw [if_pos e0]; omega
      · rw [if_neg e0, if_pos (by omega)]; omega
    · rw [show (1 + 1 + 1 : Nat) = 3 from rfl, y3 _ (by omega), m5 r' c' hr hcc, if_neg h2, lo _ (ixG_b (by omega) h2 hcc)]
  · rw [show (1 + 3 + 1 : Nat) = 5 from rfl, r 5 (by omega) (by omega), hi _ (by unfold ixB; omega)]
    exact bx r' c' (by omega) hcc
  · obtain ⟨q0, q1, q2, q3, q4, q5, q6⟩ := t3
    unfold LWr
    rw [r _ (by omega) (by omega), r _ (by omega) (by omega), hi 117 (by omega)]
    refine ⟨q0, q1, q2, q3, q4, q5, fun r' hr => ?_⟩
    rw [hi (985 + r') (by omega), hi (1001 + r') (by omega), hi (1017 + r') (by omega), hi (1033 + r') (by omega)]
    exact q6 r' hr
  · obtain ⟨q0, q1, q2, q3, q4, q5⟩ := t4
    unfold CWr
    rw [r _ (by omega) (by omega), r _ (by omega) (by omega)]
    refine ⟨q0, q1, q2, q3, q4, fun j hj => ?_⟩
    rw [hi (1050 + 2 * j) (by omega), hi (1050 + 2 * j + 1) (by omega)]
    exact q5 j hj
  · exact TWr_same t5 (r _ (by omega) (by omega)) (r _ (by omega) (by omega)) (hi _ (by omega)) (fun _ _ _ _ => hi _ (by unfold ixS; omega))
  · exact TWr_same t6 (r _ (by omega) (by omega)) (r _ (by omega) (by omega)) (hi _ (by omega)) (fun _ _ _ _ => hi _ (by unfold ixH; omega))
  · exact TWr_same t7 (r _ (by omega) (by omega)) (r _ (by omega) (by omega)) (hi _ (by omega)) (fun _ _ _ _ => hi _ (by unfold ixR; omega))
  · exact TWr_same t8 (r _ (by omega) (by omega)) (r _ (by omega) (by omega)) (hi _ (by omega)) (fun _ _ _ _ => hi _ (by unfold ixC; omega))
  · rw [y6 8 (by decide) (by decide), hi 113 (by omega)]; exact h8
  · rw [y6 9 (by decide) (by decide), hi 114 (by omega)]; exact h9
  · rw [y7, lo 0 (by omega)]; exact m2
  · rw [y8, lo 1 (by omega)]; exact m3
  · refine ⟨c - 1, (t + 5) % 6, ng, bk (c - 1), bk, by omega, by omega, hn, by omega, y10, y9, k3, (y2 3).trans p3, y5, fun i hi' => ⟨?_, (hb i (by omega)).2⟩, fun i hi' => hb2 i (by omega), fun i hi' => ?_, fun i hi' => ⟨?_, (hP i (by omega)).2⟩⟩
    · have q := bk_mono hb2 (c - 1 - i) i (by omega)
      rw [show i + (c - 1 - i) = c - 1 by omega] at q
      exact q
    · exact MSh_row (hm i hi') (r (37 + 3 * i + 1) (by omega) (by omega))
    · have q := (hP i (by omega)).1
      rw [show ((t + 5) % 6 + 6 - (c - 1) + i) % 6 = (t + 6 - c + i) % 6 by omega]
      unfold MOr at q ⊢
      rw [r _ (by omega) (by omega), r _ (by omega) (by omega), r _ (by omega) (by omega)]
      refine ⟨q.1, q.2.1, q.2.2.1, q.2.2.2.1, fun r' c' hr hcc => ?_⟩
      rw [q.2.2.2.2 r' c' hr hcc]
      by_cases h2 : c' < 2
      · rw [if_pos h2, if_pos h2, fl r' c' hr h2]
      · rw [if_neg h2, if_neg h2]
/-- all is forgotten on both sides -/
theorem PSr_forget {D D' : Nat → Nat → Int32} {w88 w91 w88' w91' : Nat → Int32} {n nb : Nat} (h : PSr D w88 w91) (e1 : D' 35 1 = ci 0) (e2 : D' 35 2 = D 35 2) (e3 : w88' 3 = ci 0) (hn : n ≤ 12) (e4 : D' 2 3 = cn n) (hnb : nb ≤ 150) (e5 : D' 4 3 = cn nb) (em : ∀ j, 36 ≤ j → j ≤ 54 → D' j = D j) : PSr D' w88' w91' := by
  obtain ⟨c, t, _, _, bk, hc, ht, _, _, p1, p2, _, _, _, _, _, hm, _⟩ := h
  refine ⟨0, t, n, nb, bk, by omega, ht, hn, hnb, e1.trans (by decide), e2.trans p2, e3.trans (by decide), e4, e5, fun i hi => absurd hi (by omega), fun i hi => absurd hi (by omega), fun i hi => ?_, fun i hi => absurd hi (by omega)⟩
  exact MSh_row (hm i hi) (em _ (by omega) (by omega))
/-- the book grows, the guests go and come -/
theorem PSr_go {D D' : Nat → Nat → Int32} {w88 w91 w88' w91' : Nat → Int32} {n nb nb' : Nat} (h : PSr D w88 w91) (e35 : D' 35 = D 35) (e3 : w88' 3 = w88 3) (e91 : w91' = w91) (e2 : D' 2 = D 2) (g3 : D 2 3 = cn n) (hn : n ≤ 12) (b3 : D 4 3 = cn nb) (hb : nb ≤ nb') (hb' : nb' ≤ 150) (b3' : D' 4 3 = cn nb') (em : ∀ j, 36 ≤ j → j ≤ 54 → D' j = D j) (fl : ∀ r c, r < n → c < 2 → D' 3 (r * 11 + c) = D 3 (r * 11 + c)) : PSr D' w88' w91' := by
  obtain ⟨c, t, n1, nb1, bk, hc, ht, hn1, hnb1, p1, p2, p3, p4, p5, hbk, hbk2, hm, hP⟩ := h
  have en : n1 = n := (cn_inj (by omega) (by omega)).mp (p4.symm.trans g3)
  subst en
  have enb : nb1 = nb := (cn_inj (by omega) (by omega)).mp (p5.symm.trans b3)
  subst enb
  subst e91
  refine ⟨c, t, n1, nb', bk, hc, ht, hn1, hb', by rw [e35]; exact p1, by rw [e35]; exact p2, e3.trans p3, by rw [e2]; exact p4, b3', fun i hi => ⟨by have := (hbk i hi).1; omega, (hbk i hi).2⟩, hbk2, fun i hi => ?_, fun i hi => ⟨?_, (hP i hi).2⟩⟩
  · exact MSh_row (hm i hi) (em _ (by omega) (by omega))
  · have q := (hP i hi).1
    unfold MOr at q ⊢
    rw [em _ (by omega) (by omega), em _ (by omega) (by omega), em _ (by omega) (by omega)]
    refine ⟨q.1, q.2.1, q.2.2.1, q.2.2.2.1, fun r c hr hcc => ?_⟩
    rw [q.2.2.2.2 r c hr hcc]
    by_cases h2 : c < 2
    · rw [if_pos h2, if_pos h2, fl r c hr h2]
    · rw [if_neg h2, if_neg h2]
end
end
