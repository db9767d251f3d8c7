noncomputable section
/-! ONE TEST, read by both; and a whole condition -/
section ONE
variable {T : Nat → Int32} {len m : Nat} {B : Nat → Nat}
theorem topO_open {W : List Int32} : topO (c8 40 :: W) := ⟨by show c8 40 ≠ c16 273; decide, by show c8 40 ≠ c16 272; decide, by show c8 40 ≠ c16 274; decide⟩
theorem opn_open {W : List Int32} : opn (c8 40 :: W) = opn W + 1 := by
  show (if c8 40 = c8 40 ∨ c8 40 = c16 274 then 1 else 0) + opn W = _
  rw [if_pos (Or.inl rfl), Nat.add_comm]
theorem opn_not {W : List Int32} : opn (c16 274 :: W) = opn W + 1 := by
  show (if c16 274 = c8 40 ∨ c16 274 = c16 274 then 1 else 0) + opn W = _
  rw [if_pos (Or.inr rfl), Nat.add_comm]
/-- a ( or a not opens -/
theorem S_opens {i nc : Nat} {W : List Int32} {a b : mG} {r : Int32 × mG} {v : Int32} {b' : mG} (hS : ST T len 0 m B) (h : SC T len m B i nc [] W a b) (hl : W.length ≤ 3 * opn W + 2) (K : KAO i a r) (hk : a.1 55 14 = c8 40 ∨ a.1 55 14 = c16 274) (hb : F_X12_opens b = some (v, b')) : RH b b' ∧ ((v = 0 ∧ r.1 = ci 0 ∧ FE r.2 b') ∨ (v = ci 1 ∧ ∃ u, SC T len m B (i + 1) nc [] (a.1 55 14 :: W) u b' ∧ KAO (i + 1) u r)) := by
  obtain ⟨h1, h2, h3, h4, h5, h6, h7⟩ := h
  have him := h1.2.1
  have m4 := hS.2.2.1
  have hi : i < m := S_lt hS h1 h2 (by rcases hk with e | e <;> rw [e] <;> decide)
  unfold F_X12_opens at hb
  by_cases h8 : opn W = 8
  · have e8 : b.1 88 23 = c8 8 := by rw [h5, h8]; decide
    rw [if_pos e8, V_bad, b2_some, if_pos pbo0] at hb
    cases hb
    obtain ⟨q1, q2, q3⟩ := A_full (by omega) K hk (by rw [h4.2.2, h8])
    have hp := (PR_facts hS h1 h2).2.1
    exact ⟨RH_RG RG_bad, Or.inl ⟨c0e0, q1, q2.trans ((mu_cellQ (by omega)).trans mu_same).symm, (q3.trans hp).trans mu_sameQ.symm⟩⟩
  · have e8 : ¬ b.1 88 23 = c8 8 := by
      rw [h5]
      intro q
      have q := (cn_inj (a := opn W) (b := 8) (by omega) (by omega)).mp (q.trans (by decide))
      omega
    rw [if_neg e8] at hb
    dsimp only at hb
    obtain ⟨s8, es, hb⟩ := m_b1 hb
    cases hb
    have hR6 : RP T len 0 m B i (mu b.1 88 23 (b.1 88 23 + ci 1), b.2) := RP_same h2 (mu_rowQ (by omega)) (fun c hc => mu_cellQ (by omega))
    obtain ⟨g1, g2⟩ := V_next hS h1.1 hR6 hi b' es
    obtain ⟨u, u1, u2, u3, u4, u5⟩ := A_open h1 hi m4 h4 (by omega) (by omega) K hk
    have eo : opn (a.1 55 14 :: W) = opn W + 1 := by
      rcases hk with e | e <;> rw [e]
      · exact opn_open
      · exact opn_not
    refine ⟨RH_tr RH_23 (RH_RG (RG_next g2)), Or.inr ⟨rfl, u, ⟨u1, g1, ?_, u2, ?_, by rw [eo]; omega, by show nc + (W.length + 1) ≤ i + 1; omega⟩, u5⟩⟩
    · unfold CodeR C58
      rw [u3, u4, g2.2.1 93 (by omega), g2.2.2 13 (by omega) (by omega) (by omega) (by omega), show ((mu b.1 88 23 (b.1 88 23 + ci 1), b.2) : mG).1 93 = b.1 93 from mu_rowQ (by omega), show ((mu b.1 88 23 (b.1 88 23 + ci 1), b.2) : mG).1 88 13 = b.1 88 13 from mu_cellQ (by omega)]
      exact h3
    · rw [g2.2.2 23 (by omega) (by omega) (by omega) (by omega), eo]
      refine mu_sameQ.trans ?_
      rw [h5, cnu (by omega)]
theorem EN_cmp {y v : Int32} : EN (c8 6 * c16 10000) (c8 27) v ∧ EN (c8 7 * c16 10000) (c8 28) v ∧ EN (c8 8 * c16 10000) (c8 29) v :=
  ⟨EN_op (q := (27, 6)) (by decide) (by decide) (by decide), EN_op (q := (28, 7)) (by decide) (by decide) (by decide), EN_op (q := (29, 8)) (by decide) (by decide) (by decide)⟩
/-- a comparison, its second side -/
theorem S_cmp {rec : mG → Option (Int32 × mG)} {i nc x : Nat} {W : List Int32} {a b b0 : mG} {r : Int32 × mG} {v : Int32} {b' : mG} {yc yr : Int32} (hS : ST T len 0 m B) (h : SX T len 0 m B i nc W.length [] a b) (hw : WS W a) (h5 : b.1 88 23 = cn (opn W)) (h6 : opn W ≤ 8) (hR : RH b0 b) (i0 : Nat) (hi0 : i0 < i) (hx : x < i) (hk : ¬ a.1 55 14 = ci (-1)) (hne : ¬ yc = ci (-1)) (hyr : ¬ yr = ci (-1)) (he : ∀ v, EN (yc * c16 10000) yr v)
    (K : bw (b1 (F_X7_stepOn a) fun s20 => b2 (F_X7_readSum s20) fun v23 s22 => if v23 = 0 then some (Sum.inr ((ci 0), s22)) else b1 (F_X10_push 58 (yc * (c16 10000)) s22) fun s26 => b1 (F_X7_readClosings s26) fun s28 => if (s28.1 55 14) = (c16 273) then F_X7_readCondition_96 (cn x) (ci 1) s28 else F_X7_readCondition_96 (cn x) (ci 0) s28) LC = some r)
    (hb : F_X12_oneTest_147 rec yr b = some (v, b')) : CQ i0 b0 r v b' (fun i' nc' a' => SC T len m B i' nc' [] W a' b' ∧ KOC i' (opn W) a' r) := by
  obtain ⟨h1, h2, h3, h4⟩ := h
  have m4 := hS.2.2.1
  have hi := S_lt hS h1 h2 hk
  unfold F_X12_oneTest_147 at hb
  rw [if_neg hyr] at hb
  obtain ⟨s38, e38, hb⟩ := m_b1 hb
  obtain ⟨v41, s40, e40, hb⟩ := m_b2 hb
  rw [bw_b1] at K
  obtain ⟨s20, e20, K⟩ := m_b1 K
  rw [bw_b2] at K
  obtain ⟨v23, s22, e22, K⟩ := m_b2 K
  obtain ⟨g1, g2, g3⟩ := S_step (k' := W.length + 1) hS h1 h2 h3 hi (by omega) s20 e20 s38 e38
  have hq := S_readSum hS g1 (v23, s22) e22 (v41, s40) e40
  have ev : v23 = v41 := hq.1
  have c1 : CG a s22 := CG_tr (CG_step g2) hq.2.1
  have c2 : RG b s40 := RG_tr (RG_next g3) hq.2.2.1
  by_cases hv : v23 = 0
  · rw [if_pos hv, bw_r] at K
    rw [if_pos (ev ▸ hv)] at hb
    cases hb
    have K := Option.some.inj K
    subst K
    exact ⟨RH_tr hR (RH_RG c2), fun _ => ⟨rfl, hq.2.2.2.1 hv⟩, fun e => absurd c0e0 e⟩
  · rw [if_neg hv] at K
    rw [if_neg (fun e => hv (ev.trans e))] at hb
    obtain ⟨s44, e44, hb⟩ := m_b1 hb
    cases hb
    obtain ⟨i', nc', z1, y1, y2, y3, y4⟩ := hq.2.2.2.2 hv
    have him' := y1.2.1
    rw [bw_b1] at K
    obtain ⟨s26, e26, K⟩ := m_b1 K
    obtain ⟨q1, q2, q3, q4, q5⟩ := S_emit y1 y2 y3 (he (ci 0)) (by omega) s26 e26 b' e44
    unfold F_X7_readClosings F_X7_closeNots at K
    rw [b1_b1, bw_b1] at K
    have c3 : CG a s26 := CG_tr c1 q4
    refine ⟨RH_tr hR (RH_RG (RG_tr c2 q5)), fun e => absurd e c1n0, fun _ => ⟨i', nc' + 1, s26, by omega, ⟨q1, q2, q3, ⟨?_, ?_, ?_⟩, ?_, h6, by omega⟩, x, 0, 0, by omega, by omega, by omega, ?_⟩⟩
    · rw [c3.2.1 67 (by omega) (by omega) (by omega)]; exact hw.1
    · rw [c3.2.2.1 7 (by omega) (by omega) (by omega) (by omega) (by omega) (by omega)]; exact hw.2.1
    · rw [c3.2.2.1 8 (by omega) (by omega) (by omega) (by omega) (by omega) (by omega)]; exact hw.2.2
    · rw [(RG_tr c2 q5).2.2 23 (by omega) (by omega) (by omega) (by omega) (by omega) (by omega) (by omega)]; exact h5
    · have e : (fun u : mG => bw (b1 (F_X7_readClosings_L6 (ci 0) u) fun s28 => if (s28.1 55 14) = (c16 273) then F_X7_readCondition_96 (cn x) (ci 1) s28 else F_X7_readCondition_96 (cn x) (ci 0) s28) LC) = fun u : mG => b1 (F_X7_readClosings_L6 (cn 0) u) fun s28 => bw (cend (cn x) s28) LC := by
        funext u
        rw [bw_b1]
        rfl
      rw [← e]
      exact K
theorem OTP_step {rec : mG → Option (Int32 × mG)} (hS : ST T len 0 m B) (hrec : OTP T len m B rec) : OTP T len m B (F_X12_oneTest rec) := by
  intro i nc W a b r v b' h hl h0 K hb
  have h' := h
  obtain ⟨h1, h2, h3, h4, h5, h6, h7⟩ := h
  have him := h1.2.1
  have m4 := hS.2.2.1
  obtain ⟨hKP, hpl, _, _⟩ := PR_facts hS h1 h2
  unfold F_X12_oneTest at hb
  by_cases n1 : a.1 55 14 = c16 274
  · rw [if_pos ((K_not hKP).mpr n1)] at hb
    obtain ⟨v4, s3, e3, hb⟩ := m_b2 hb
    unfold F_X12_oneTest_23 at hb
    obtain ⟨rh, hq⟩ := S_opens hS h' hl K (Or.inr n1) e3
    rcases hq with ⟨hv, q1, q2⟩ | ⟨hv, u, g, gK⟩
    · rw [if_pos hv] at hb
      cases hb
      exact ⟨rh, fun _ => ⟨q1, q2⟩, fun e => absurd c0e0 e⟩
    · rw [hv, if_neg c1n0] at hb
      obtain ⟨v8, s7, e7, hb⟩ := m_b2 hb
      rw [n1] at g
      have hq := hrec (i + 1) nc _ u s3 r v8 s7 g (by show W.length + 1 ≤ _; rw [opn_not]; omega) (by omega) gK e7
      by_cases hv8 : v8 = 0
      · rw [if_pos hv8] at hb
        cases hb
        exact ⟨RH_tr rh hq.1, fun _ => hq.2.1 hv8, fun e => absurd c0e0 e⟩
      · rw [if_neg hv8] at hb
        dsimp only at hb
        obtain ⟨s12, e12, hb⟩ := m_b1 hb
        cases hb
        obtain ⟨i', nc', a', z1, z2, z3⟩ := hq.2.2 hv8
        obtain ⟨y1, y2, y3, y4, y5, y6, y7⟩ := z2
        have him' := y1.2.1
        have hlen : (c16 274 :: W).length = W.length + 1 := rfl
        rw [hlen] at y7
        have hop : opn W ≤ 7 := by rw [opn_not] at y6; omega
        obtain ⟨w, w1, w2, w3, w4, w5⟩ := O_not y4 (by omega) y3.1 y3.2.1 (by omega) z3
        have h13 : ((mu s7.1 88 23 (s7.1 88 23 - ci 1), s7.2) : mG).1 88 13 = cn nc' := (mu_cellQ (by omega)).trans y3.2.2.1
        have e12' := V_lay h13 (by omega) b' e12
        obtain ⟨l1, l2, l3⟩ := lay_facts e12'
        have hR6 : RP T len 0 m B i' (mu s7.1 88 23 (s7.1 88 23 - ci 1), s7.2) := RP_same y2 (mu_rowQ (by omega)) (fun c hc => mu_cellQ (by omega))
        refine ⟨RH_tr rh (RH_tr hq.1 (RH_tr RH_23 (RH_RG l3))), fun e => absurd e c1n0, fun _ => ⟨i', nc' + 1, w, by omega, ⟨CP_CW y1 w4, RP_RG13 hR6 e12', ?_, w1, ?_, by omega, by omega⟩, w5⟩⟩
        · refine CodeR_add2 (v := ci 0) y3 (EN_op (q := (30, 9)) (y := c8 30) (x := ci 90000) (by decide) (by decide) (by decide)) w2 w3 ?_ l2
          rw [l1]
          exact mu_row2 (mu_row2 (mu_rowQ (by omega)))
        · rw [l3.2.2 23 (by omega) (by omega) (by omega) (by omega) (by omega) (by omega) (by omega)]
          refine mu_sameQ.trans ?_
          rw [y5, opn_not]
          exact (cn_sub (a := opn W + 1) (b := 1) (by omega) (by omega)).trans (by rw [Nat.add_sub_cancel])
  · rw [if_neg (fun q => n1 ((K_not hKP).mp q))] at hb
    by_cases n2 : a.1 55 14 = c8 40
    · rw [if_pos ((K_open hKP).mpr n2)] at hb
      obtain ⟨v4, s15, e3, hb⟩ := m_b2 hb
      unfold F_X12_oneTest_78 at hb
      obtain ⟨rh, hq⟩ := S_opens hS h' hl K (Or.inl n2) e3
      rcases hq with ⟨hv, q1, q2⟩ | ⟨hv, u, g, gK⟩
      · rw [if_pos hv] at hb
        cases hb
        exact ⟨rh, fun _ => ⟨q1, q2⟩, fun e => absurd c0e0 e⟩
      · rw [hv, if_neg c1n0] at hb
        obtain ⟨v20, s19, e19, hb⟩ := m_b2 hb
        rw [n2] at g
        have hq := S_any hS hrec topO_open (by show W.length + 1 ≤ _; rw [opn_open]; omega) (by omega) g gK e19
        by_cases hv20 : v20 = 0
        · rw [if_pos hv20] at hb
          cases hb
          exact ⟨RH_tr rh hq.1, fun _ => hq.2.1 hv20, fun e => absurd c0e0 e⟩
        · rw [if_neg hv20] at hb
          obtain ⟨v24, s23, e23, hb⟩ := m_b2 hb
          obtain ⟨i', nc', a', z1, ps, hps, hpl2, z2, z3, z4, z5⟩ := hq.2.2 hv20
          obtain ⟨y1, y2, y3, y4, y5, y6, y7⟩ := z2
          have him' := y1.2.1
          have hlen : (ps ++ c8 40 :: W).length = ps.length + (W.length + 1) := by simp
          rw [hlen] at y7
          have eo : opn (ps ++ c8 40 :: W) = opn W + 1 := by rw [opn_ps ps _ hps, opn_open]
          obtain ⟨hK2, hpl3, _, _⟩ := PR_facts hS y1 y2
          unfold F_X12_need at e23
          by_cases n3 : a'.1 55 14 = c8 41
          · have hi' := S_lt hS y1 y2 (by rw [n3]; decide)
            rw [if_pos ((K_close hK2).mpr n3)] at e23
            obtain ⟨s3', e3', e23⟩ := m_b1 e23
            cases e23
            obtain ⟨g1, g2⟩ := V_next hS y1.1 y2 hi' s23 e3'
            obtain ⟨w, w1, w2, w3, w4⟩ := D_close y1 hi' m4 y4 (by rw [hlen]; omega) hps (by omega) y6 y3 n3 z3
            rw [if_neg c1n0] at hb
            dsimp only at hb
            cases hb
            refine ⟨RH_tr rh (RH_tr hq.1 (RH_tr (RH_RG (RG_next g2)) RH_23)), fun e => absurd e c1n0, fun _ => ⟨i' + 1, nc' + ps.length, w, by omega, ⟨w1, RP_same g1 (mu_rowQ (by omega)) (fun c hc => mu_cellQ (by omega)), ?_, w2, ?_, by omega, by omega⟩, w4⟩⟩
            · unfold CodeR
              rw [show ((mu s23.1 88 23 (s23.1 88 23 - ci 1), s23.2) : mG).1 93 = s23.1 93 from mu_rowQ (by omega), show ((mu s23.1 88 23 (s23.1 88 23 - ci 1), s23.2) : mG).1 88 13 = s23.1 88 13 from mu_cellQ (by omega)]
              exact CodeR_step w3 CFr_rfl g2
            · refine mu_sameQ.trans ?_
              rw [g2.2.2 23 (by omega) (by omega) (by omega) (by omega), y5, eo]
              exact (cn_sub (a := opn W + 1) (b := 1) (by omega) (by omega)).trans (by rw [Nat.add_sub_cancel])
          · rw [if_neg (fun q => n3 ((K_close hK2).mp q)), V_bad, b2_some, if_pos pbo0] at e23
            cases e23
            rw [if_pos c0e0] at hb
            cases hb
            obtain ⟨x, hx, K1⟩ := D_exit (by omega) (Or.inl n3) z3
            have hE := E_done (W := c8 40 :: W) y1 y4 (by rw [hlen]; omega) z4 z5 hps ⟨topO_open.1, topO_open.2.1⟩ (by omega) y3 K1
            have ne : ¬ a'.1 55 8 = cn 0 := by
              rw [y4.2.2, eo, cn_inj (by omega) (by omega)]
              omega
            rcases hE with ⟨e, _⟩ | ⟨_, f1, f2, f3⟩
            · exact absurd e ne
            · exact ⟨RH_tr rh (RH_tr hq.1 (RH_RG RG_bad)), fun _ => ⟨f1, f2.trans ((mu_cellQ (by omega)).trans mu_same).symm, (f3.trans hpl3).trans mu_sameQ.symm⟩, fun e => absurd c0e0 e⟩
    · rw [if_neg (fun q => n2 ((K_open hKP).mp q))] at hb
      obtain ⟨v29, s28, e28, hb⟩ := m_b2 hb
      obtain ⟨x, hx, K1⟩ := A_plain (by omega) K n2 n1
      unfold crest F_X7_readCondition_33 at K1
      rw [if_neg c1n0, bw_b2] at K1
      obtain ⟨v10, s9, e9, K1⟩ := m_b2 K1
      have hq := S_readSum hS ⟨h1, h2, h3, h7⟩ (v10, s9) e9 (v29, s28) e28
      have ev : v10 = v29 := hq.1
      by_cases hv : v10 = 0
      · rw [if_pos hv, bw_b1r] at K1
        rw [if_pos (ev ▸ hv)] at hb
        cases hb
        have K1 := Option.some.inj K1
        subst K1
        exact ⟨RH_RG hq.2.2.1, fun _ => ⟨rfl, hq.2.2.2.1 hv⟩, fun e => absurd c0e0 e⟩
      · rw [if_neg hv] at K1
        rw [if_neg (fun e => hv (ev.trans e))] at hb
        obtain ⟨i', nc', z1, z2⟩ := hq.2.2.2.2 hv
        have z2' := z2
        obtain ⟨y1, y2, y3, y4⟩ := z2
        obtain ⟨hK2, hpl2, _, _⟩ := PR_facts hS y1 y2
        have c1 : CG a s9 := hq.2.1
        have hw : WS W s9 := ⟨by rw [c1.2.1 67 (by omega) (by omega) (by omega)]; exact h4.1, by rw [c1.2.2.1 7 (by omega) (by omega) (by omega) (by omega) (by omega) (by omega)]; exact h4.2.1, by rw [c1.2.2.1 8 (by omega) (by omega) (by omega) (by omega) (by omega) (by omega)]; exact h4.2.2⟩
        have hd : s28.1 88 23 = cn (opn W) := by rw [hq.2.2.1.2.2 23 (by omega) (by omega) (by omega) (by omega) (by omega) (by omega) (by omega)]; exact h5
        have rh := RH_RG hq.2.2.1
        unfold F_X7_stepOfComparison at K1
        have hcmp := @EN_cmp (ci 0)
        by_cases k1 : s9.1 55 14 = ci 60
        · rw [if_pos k1, b1_some, if_neg (by decide)] at K1
          rw [if_pos ((K_below hK2).mpr k1)] at hb
          exact S_cmp hS z2' hw hd h6 rh i z1 (by omega) (by rw [k1]; decide) (by decide) (by decide) (fun v => (EN_cmp (y := ci 0) (v := v)).1) K1 hb
        rw [if_neg k1] at K1
        rw [if_neg (fun q => k1 ((K_below hK2).mp q))] at hb
        by_cases k2 : s9.1 55 14 = ci 61
        · rw [if_pos k2, b1_some, if_neg (by decide)] at K1
          rw [if_pos ((K_same hK2).mpr k2)] at hb
          exact S_cmp hS z2' hw hd h6 rh i z1 (by omega) (by rw [k2]; decide) (by decide) (by decide) (fun v => (EN_cmp (y := ci 0) (v := v)).2.1) K1 hb
        rw [if_neg k2] at K1
        rw [if_neg (fun q => k2 ((K_same hK2).mp q))] at hb
        by_cases k3 : s9.1 55 14 = ci 62
        · rw [if_pos k3, b1_some, if_neg (by decide)] at K1
          rw [if_pos ((K_above hK2).mpr k3)] at hb
          exact S_cmp hS z2' hw hd h6 rh i z1 (by omega) (by rw [k3]; decide) (by decide) (by decide) (fun v => (EN_cmp (y := ci 0) (v := v)).2.2) K1 hb
        rw [if_neg k3, b1_some, if_pos rfl, V_refuse, b2_some, if_pos pbo0, bw_r] at K1
        rw [if_neg (fun q => k3 ((K_above hK2).mp q))] at hb
        unfold F_X12_oneTest_147 at hb
        rw [if_pos rfl, V_bad, b2_some, if_pos pbo0] at hb
        cases hb
        have K1 := Option.some.inj K1
        subst K1
        exact ⟨RH_tr rh (RH_RG RG_bad), fun _ => ⟨rfl, ((mu_cellQ (by omega)).trans mu_same).trans ((mu_cellQ (by omega)).trans mu_same).symm, mu_sameQ.trans (hpl2.trans mu_sameQ.symm)⟩, fun e => absurd c0e0 e⟩
theorem OTP_Q (hS : ST T len 0 m B) : ∀ n, OTP T len m B (Q_X12_oneTest n)
  | 0 => fun _ _ _ _ _ _ _ _ _ _ _ _ e => by cases e
  | n + 1 => OTP_step hS (OTP_Q hS n)
theorem any_pb {rec : mG → Option (Int32 × mG)} {b : mG} : pk (F_X12_any rec b) (fun τ => PB τ.1) := by
  unfold F_X12_any
  refine pk_b2 pk_top (fun v s _ => pk_ite (pk_some pb0) ?_)
  unfold F_X12_any_L9
  refine pk_whl (fun _ => True) trivial (fun w _ => ?_)
  unfold F_X12_any_B9
  exact pk_ite (pk_b1 pk_top (fun _ _ => pk_b2 pk_top (fun _ _ _ => pk_ite (pk_some pb0) (pk_b1 pk_top (fun _ _ => pk_some trivial))))) (pk_some pb1)
/-- a whole condition -/
theorem S_cond {i nc : Nat} {a b : mG} (hS : ST T len 0 m B) (h0 : 0 < i) (h : SX T len 0 m B i nc 0 [] a b) (h23 : b.1 88 23 = cn 0) : rel (F_X7_readCondition a) (F_X12_any R_X12_oneTest b) (fun τ υ => τ.1 = υ.1 ∧ RH b υ.2 ∧ (τ.1 = 0 → FE τ.2 υ.2) ∧ (¬ τ.1 = 0 → ∃ i' nc', i < i' ∧ SX T len 0 m B i' nc' 0 [] τ.2 υ.2)) := by
  intro r hr υ hb
  obtain ⟨v, b'⟩ := υ
  obtain ⟨h1, h2, h3, h4⟩ := h
  have him := h1.2.1
  have m4 := hS.2.2.1
  unfold F_X7_readCondition at hr
  dsimp only at hr
  have cw : CW a (mu (mu a.1 55 7 (ci 0)) 55 8 (ci 0), a.2) := ⟨fun j q1 _ _ _ => (mu_rowQ q1).trans (mu_row q1), fun c q1 q2 => (mu_cellQ (Or.inr q2)).trans (mu_cell (Or.inr q1)), fun c _ => (congrFun (mu_rowQ (by omega)) c).trans (congrFun (mu_row (by omega)) c)⟩
  have hSC : SC T len m B i nc [] [] (mu (mu a.1 55 7 (ci 0)) 55 8 (ci 0), a.2) b := by
    refine ⟨CP_CW h1 cw, h2, ?_, ⟨trivial, ?_, ?_⟩, h23, by show 0 ≤ 8; omega, by show nc + 0 ≤ i; omega⟩
    · unfold CodeR C58
      rw [show ((mu (mu a.1 55 7 (ci 0)) 55 8 (ci 0), a.2) : mG).1 58 = a.1 58 from (mu_rowQ (by omega)).trans (mu_row (by omega)), show ((mu (mu a.1 55 7 (ci 0)) 55 8 (ci 0), a.2) : mG).1 59 = a.1 59 from (mu_rowQ (by omega)).trans (mu_row (by omega))]
      exact h3
    · exact (mu_cellQ (by omega)).trans mu_same
    · exact mu_sameQ
  have K : KAO i (mu (mu a.1 55 7 (ci 0)) 55 8 (ci 0), a.2) r := by
    refine ⟨0, 0, h0, h0, ?_⟩
    rw [RC_bw] at hr
    unfold F_X7_readCondition_B12 F_X7_readOpenings at hr
    rw [if_neg (show ¬ c16 400 ≤ ci 0 by decide), bw_b2] at hr
    exact hr
  have hq := S_any hS (OTP_Q hS 9) (W := []) ⟨by show ci (-1) ≠ c16 273; decide, by show ci (-1) ≠ c16 272; decide, by show ci (-1) ≠ c16 274; decide⟩ (by show 0 ≤ _; omega) h0 hSC K hb
  by_cases hv : v = 0
  · obtain ⟨q1, q2⟩ := hq.2.1 hv
    exact ⟨q1.trans (c0e0.trans hv.symm), hq.1, fun _ => q2, fun e => absurd (q1.trans c0e0) e⟩
  · obtain ⟨i', nc', a', z1, ps, hps, hpl2, z2, z3, z4, z5⟩ := hq.2.2 hv
    obtain ⟨y1, y2, y3, y4, y5, y6, y7⟩ := z2
    have him' := y1.2.1
    rw [List.append_nil] at y4 y5 y6 y7
    have eo : opn ps = 0 := by
      have := opn_ps ps [] hps
      rw [List.append_nil] at this
      exact this
    have e8 : a'.1 55 8 = cn 0 := by rw [y4.2.2, eo]
    obtain ⟨x, hx, K1⟩ := D_exit (by omega) (Or.inr e8) z3
    have hE := E_done (W := []) (ps := ps) y1 (by rw [List.append_nil]; exact y4) (by rw [List.append_nil]; omega) z4 z5 hps ⟨by show ci (-1) ≠ c16 273; decide, by show ci (-1) ≠ c16 272; decide⟩ (by omega) y3 K1
    rcases hE with ⟨_, f1, f2, f3⟩ | ⟨e, _⟩
    · have hv1 : v = ci 1 := ((any_pb (v, b') hb).resolve_left hv).trans (by decide)
      refine ⟨f1.trans hv1.symm, hq.1, fun e => absurd (f1.symm.trans e) c1n0, fun _ => ⟨i', nc' + ps.length, z1, f2, y2, f3, by omega⟩⟩
    · exact absurd e8 e
end ONE
end
