noncomputable section
def QI (v a b c : Int32) : Prop := PB v ∧ (¬ v = 0 → b.toInt ≤ a.toInt ∧ a.toInt ≤ c.toInt)
def QG (v a w : Int32) : Prop := PB v ∧ (¬ v = 0 → 0 ≤ a.toInt ∧ a.toInt < w.toInt)
theorem F_isIn {s : mG} {a b c : Int32} : F_X12_isIn s a b c = some (wi a b c) := by
  unfold F_X12_isIn wi
  by_cases h1 : a < b
  · rw [if_pos h1, if_pos h1]; rfl
  · rw [if_neg h1, if_neg h1]
    by_cases h2 : c < a
    · rw [if_pos h2, if_pos h2]; rfl
    · rw [if_neg h2, if_neg h2]
theorem wi_f {a b c : Int32} (h : ¬ wi a b c = 0) : b.toInt ≤ a.toInt ∧ a.toInt ≤ c.toInt := by
  unfold wi at h
  by_cases h1 : a < b
  · rw [if_pos h1] at h; exact absurd (by decide) h
  · rw [if_neg h1] at h
    by_cases h2 : c < a
    · rw [if_pos h2] at h; exact absurd (by decide) h
    · exact ⟨t_nlt h1, t_nlt h2⟩
theorem T_X12_isIn {s : mG} {a1 a2 a3 : Int32} (hI : IM s) : ok (F_X12_isIn s a1 a2 a3) (fun v => QI v a1 a2 a3) := ⟨_, F_isIn, wi_b _ _ _, wi_f⟩
theorem isin_f {a b c : Int32} {m n : Int} (hb : b.toInt = m) (hc : c.toInt = n) (h : b.toInt ≤ a.toInt ∧ a.toInt ≤ c.toInt) : m ≤ a.toInt ∧ a.toInt ≤ n := by
  rw [hb, hc] at h; exact h
theorem rm_k (j k : Nat) {s st : mG} (h : RM s st) (hj : j < 92 ∧ j ≠ 88) : (st.1 j k).toInt = (s.1 j k).toInt := by rw [h.2.1 j hj.1 hj.2]
theorem T_X12_lesser {s : mG} {a1 a2 : Int32} {m : Int} (hm : a1.toInt = m) (hI : IM s) : ok (F_X12_lesser s a1 a2) (fun v => v.toInt ≤ m) := by
  unfold F_X12_lesser
  refine ok_ite (fun h => ?_) (fun h => ?_)
  · exact ok_some (r_le rfl hm h)
  · exact ok_some (by omega)
theorem T_X12_greater {s : mG} {a1 a2 : Int32} {m : Int} (hm : a1.toInt = m) (hI : IM s) : ok (F_X12_greater s a1 a2) (fun v => m ≤ v.toInt ∧ (v.toInt = m ∨ v.toInt = a2.toInt)) := by
  unfold F_X12_greater
  refine ok_ite (fun h => ?_) (fun h => ?_)
  · exact ok_some ⟨r_le hm rfl h, Or.inr rfl⟩
  · exact ok_some ⟨by omega, Or.inl hm⟩
theorem T_X12_isGuest {s : mG} {a1 : Int32} (hI : IM s) : ok (F_X12_isGuest s a1) (fun v => QG v a1 (s.1 89 112)) := by
  unfold F_X12_isGuest
  refine ok_b1 (T_X12_isIn hI) (fun v hv => ?_)
  refine ok_pp hv.1 ?_
  refine ok_some ⟨hv.1, fun h => ?_⟩
  have h3 := im_112 hI
  have h2 := isin_f (a := a1) (by decide : (ci 0).toInt = 0) (r_sub rfl (by decide : (ci 1).toInt = 1) (by omega) (by omega)) (hv.2 h)
  omega
theorem T_X12_isSign {s : mG} {a1 : Int32} (hI : IM s) : ok (F_X12_isSign s a1) (fun v => QG v a1 (s.1 89 115)) := by
  unfold F_X12_isSign
  refine ok_b1 (T_X12_isIn hI) (fun v hv => ?_)
  refine ok_pp hv.1 ?_
  refine ok_some ⟨hv.1, fun h => ?_⟩
  have h3 := im_115 hI
  have h2 := isin_f (a := a1) (by decide : (ci 0).toInt = 0) (r_sub rfl (by decide : (ci 1).toInt = 1) (by omega) (by omega)) (hv.2 h)
  omega
theorem T_X12_fault {s : mG} {a1 : Int32} (hI : IM s) : ok (F_X12_fault s a1) (fun (v : Int32) => True) := by
  have hR : RM s s := RM_refl hI
  unfold F_X12_fault
  refine ok_ite (fun h_1 => ?_) (fun h_2 => ?_)
  · have hc_3 := r_eq (rfl : (a1).toInt = _) (by decide : (0 : Int32).toInt = 0) h_1
    exact ok_some trivial
  · have hc_4 := r_ne (rfl : (a1).toInt = _) (by decide : (0 : Int32).toInt = 0) h_2
    refine ok_ite (fun h_5 => ?_) (fun h_6 => ?_)
    · have hc_7 := r_eq (rfl : (a1).toInt = _) (by decide : (ci 1).toInt = 1) h_5
      exact ok_some trivial
    · have hc_8 := r_ne (rfl : (a1).toInt = _) (by decide : (ci 1).toInt = 1) h_6
      exact ok_some trivial
theorem cn_up {x : Int32} {k : Nat} (h : x = cn k) (hk : k < 2147483646) : x + ci 1 = cn (k + 1) := by
  have e : x.toInt = (k : Int) := by rw [h]; exact t_cn (by omega)
  apply Int32.toInt_inj.mp
  rw [t_up (by omega), e, t_cn (by omega)]
  omega
theorem cn_dn {x : Int32} {k : Nat} (h : x = cn (k + 1)) (hk : k < 2147483646) : x + ci (-1) = cn k := by
  have e : x.toInt = (k + 1 : Nat) := by rw [h]; exact t_cn (by omega)
  apply Int32.toInt_inj.mp
  rw [t_dn (by omega), e, t_cn (by omega)]
  omega
theorem r_nat2 {e : Int32} {M : Int} {m : Nat} (he : e.toInt = M) (hM : M = (m : Int)) : e.toNatClampNeg = m := by
  rw [t_nat, he, hM]; rfl
theorem dn_r {x : Int32} {m : Int} (h : x.toInt = m) (h2 : -2147483648 < m) : (x + ci (-1)).toInt = m - 1 := by
  subst h; exact t_dn h2
theorem ct1 {x : Int32} {k : Nat} (h : x.toInt = (k : Int)) (hk : k < 10000) : (((c16 1050) + ((c16 820) * (ci 0))) + ((ci 2) * x)).toInt = 1050 + 2 * (k : Int) :=
  r_add (by decide) (r_mul (by decide) h (by omega) (by omega)) (by omega) (by omega)
theorem ct2 {x : Int32} {k : Nat} (h : x.toInt = (k : Int)) (hk : k < 10000) : ((((c16 1050) + ((c16 820) * (ci 0))) + ((ci 2) * x)) + (ci 1)).toInt = 1050 + 2 * (k : Int) + 1 :=
  r_add (ct1 h hk) (by decide) (by omega) (by omega)
theorem T_X12_both {s : mG} {a1 a2 a3 : Int32} (hI : IM s) : ok (F_X12_both s a1 a2 a3) PT := by
  unfold F_X12_both F_X12_both_101
  repeat' (first | exact ok_some trivial | refine ok_ite (fun _ => ?_) (fun _ => ?_))
theorem T_X12_comesTo {s : mG} {x y : Int32} (h : ∃ a b : Nat, b ≤ 410 ∧ x = cn a ∧ y = cn b ∧ a ≤ b ∧ Rc (fun j => s.1 89 (1050 + j)) a (b - a) 0 1) (hI : IM s) : ok (F_X12_comesTo (ci 0) x y s) (fun τ => True ∧ RM s τ.2) := by
  obtain ⟨a, b, hb, rfl, rfl, hab, hr⟩ := h
  unfold F_X12_comesTo F_X12_comesTo_L6
  refine ok_whl (fun v => ci 0 = v.1 ∧ cn b = v.2.1 ∧ RM s v.2.2.2.2 ∧ ∃ k h : Nat, k ≤ b ∧ a ≤ k ∧ h ≤ k - a ∧ v.2.2.2.1 = cn k ∧ v.2.2.1 = cn h ∧ Rc (fun j => s.1 89 (1050 + j)) k (b - k) h 1) (fun v => mUp v.2.2.2.1) ⟨rfl, rfl, RM_refl hI, a, 0, hab, Nat.le_refl _, Nat.zero_le _, rfl, rfl, hr⟩ (fun v hv => ?_)
  obtain ⟨x1, x3, x4, x5, s1⟩ := v
  obtain ⟨rfl, rfl, rs1, k, h, hk, hak, hh, q1, q2, hrc⟩ := hv
  have hs1 : RM s s1 := rs1
  have e5 : x5 = cn k := q1
  have e4 : x4 = cn h := q2
  have t5 : x5.toInt = (k : Int) := by rw [e5]; exact t_cn (by omega)
  have t4 : x4.toInt = (h : Int) := by rw [e4]; exact t_cn (by omega)
  have tb : (cn b).toInt = (b : Int) := t_cn (by omega)
  have nx : x5 + ci 1 = cn (k + 1) := cn_up e5 (by omega)
  show ok (F_X12_comesTo_B6 (ci 0) (cn b) x4 x5 s1) _
  unfold F_X12_comesTo_B6
  refine ok_ite (fun c => ?_) (fun c => ?_)
  · exact ok_some (lp_inr ⟨trivial, hs1⟩)
  · have hkb := r_nle tb t5 c
    refine ok_nn (ix_ok (ct1 t5 (by omega)) (by omega) (by omega)) ?_
    extract_lets +onlyGivenNames v3
    have h3 : v3 = s1.1 89 (1050 + 2 * k) := congrArg (s1.1 89) (r_nat2 (ct1 t5 (by omega)) (by omega))
    clear_value v3
    refine ok_nn (ix_ok (ct2 t5 (by omega)) (by omega) (by omega)) ?_
    extract_lets +onlyGivenNames v5
    have h5 : v5 = s1.1 89 (1050 + (2 * k + 1)) := congrArg (s1.1 89) (r_nat2 (ct2 t5 (by omega)) (by omega))
    clear_value v5
    obtain ⟨n, hn⟩ : ∃ n, b - k = n + 1 := ⟨b - k - 1, by omega⟩
    rw [hn] at hrc
    obtain ⟨m, hst, hrest⟩ := hrc
    have hn' : b - (k + 1) = n := by omega
    rw [← hn'] at hrest
    have r89 : s1.1 89 = s.1 89 := hs1.2.1 89 (by decide) (by decide)
    have hst : stpv v3 v5 h = some m := by rw [h3, h5, r89]; exact hst
    refine ok_ite (fun c2 => ?_) (fun c2 => ?_)
    · have g := r_le (by decide : (c8 23).toInt = 23) (rfl : v3.toInt = _) c2
      refine ok_ite (fun c3 => ?_) (fun c3 => ?_)
      · have g3 := r_eq (rfl : v3.toInt = _) (by decide : (c8 26).toInt = 26) c3
        have hx : 1 ≤ h ∧ v5 ≠ 0 ∧ m = h := by
          unfold stpv at hst
          rw [if_neg (by omega), if_pos g3] at hst
          split at hst
          · next q => cases hst; exact ⟨q.1, q.2, rfl⟩
          · cases hst
        obtain ⟨hx1, hx2, rfl⟩ := hx
        refine ok_nn (ix_ok (r_sub t4 (by decide : (ci 1).toInt = 1) (by omega) (by omega)) (by omega) (by omega)) ?_
        refine ok_nn hx2 ?_
        refine ok_nn (ix_ok (r_sub t4 (by decide : (ci 1).toInt = 1) (by omega) (by omega)) (by omega) (by omega)) ?_
        extract_lets +onlyGivenNames s11
        have hs11 : RM s s11 := RM_mw hs1 (by decide)
        clear_value s11
        unfold F_X12_comesTo_180
        exact ok_some (lp_inl ⟨rfl, rfl, hs11, k + 1, m, by omega, by omega, by omega, nx, e4, hrest⟩ (up_t (by omega)))
      · have g3 := r_ne (rfl : v3.toInt = _) (by decide : (c8 26).toInt = 26) c3
        refine ok_ite (fun c4 => ?_) (fun c4 => ?_)
        · have g4 := r_eq (rfl : v3.toInt = _) (by decide : (c8 30).toInt = 30) c4
          have hx : 1 ≤ h ∧ m = h := by
            unfold stpv at hst
            rw [if_neg (by omega), if_neg g3, if_pos g4] at hst
            split at hst
            · next q => cases hst; exact ⟨q, rfl⟩
            · cases hst
          obtain ⟨hx1, rfl⟩ := hx
          refine ok_nn (ix_ok (r_sub t4 (by decide : (ci 1).toInt = 1) (by omega) (by omega)) (by omega) (by omega)) ?_
          refine ok_nn (ix_ok (r_sub t4 (by decide : (ci 1).toInt = 1) (by omega) (by omega)) (by omega) (by omega)) ?_
          extract_lets +onlyGivenNames s15
          have hs15 : RM s s15 := RM_mw hs1 (by decide)
          clear_value s15
          unfold F_X12_comesTo_180
          exact ok_some (lp_inl ⟨rfl, rfl, hs15, k + 1, m, by omega, by omega, by omega, nx, e4, hrest⟩ (up_t (by omega)))
        · have g4 := r_ne (rfl : v3.toInt = _) (by decide : (c8 30).toInt = 30) c4
          have hx : 2 ≤ h ∧ m = h - 1 := by
            unfold stpv at hst
            rw [if_neg (by omega), if_neg g3, if_neg g4] at hst
            split at hst
            · next q => cases hst; exact ⟨q, rfl⟩
            · cases hst
          obtain ⟨hx1, rfl⟩ := hx
          have e8 : x4 + ci (-1) = cn (h - 1) := cn_dn (e4.trans (congrArg cn (by omega))) (by omega)
          refine ok_nn (ix_ok (r_sub (dn_r t4 (by omega)) (by decide : (ci 1).toInt = 1) (by omega) (by omega)) (by omega) (by omega)) ?_
          refine ok_nn (ix_ok (dn_r t4 (by omega)) (by omega) (by omega)) ?_
          refine ok_b1 (T_X12_both hs1.1) (fun v19 _ => ?_)
          refine ok_nn (ix_ok (r_sub (dn_r t4 (by omega)) (by decide : (ci 1).toInt = 1) (by omega) (by omega)) (by omega) (by omega)) ?_
          extract_lets +onlyGivenNames s21
          have hs21 : RM s s21 := RM_mw hs1 (by decide)
          clear_value s21
          unfold F_X12_comesTo_180
          exact ok_some (lp_inl ⟨rfl, rfl, hs21, k + 1, h - 1, by omega, by omega, by omega, nx, e8, hrest⟩ (up_t (by omega)))
    · have g := r_nle (by decide : (c8 23).toInt = 23) (rfl : v3.toInt = _) c2
      have hx : (0 ≤ v3.toInt ∧ v3.toInt < 10) ∧ m = h + 1 := by
        unfold stpv at hst
        rw [if_pos g] at hst
        split at hst
        · next q => cases hst; exact ⟨q, rfl⟩
        · cases hst
      obtain ⟨hx1, rfl⟩ := hx
      have e9 : x4 + ci 1 = cn (h + 1) := cn_up e4 (by omega)
      refine ok_ite (fun c3 => ?_) (fun c3 => ?_)
      · unfold F_X12_comesTo_86
        refine ok_nn (ix_ok t4 (by omega) (by omega)) ?_
        extract_lets +onlyGivenNames s24
        have hs24 : RM s s24 := RM_mw hs1 (by decide)
        clear_value s24
        unfold F_X12_comesTo_180
        exact ok_some (lp_inl ⟨rfl, rfl, hs24, k + 1, h + 1, by omega, by omega, by omega, nx, e9, hrest⟩ (up_t (by omega)))
      · refine ok_nn (ix_ok (rfl : v3.toInt = _) (by omega) (by omega)) ?_
        unfold F_X12_comesTo_86
        refine ok_nn (ix_ok t4 (by omega) (by omega)) ?_
        extract_lets +onlyGivenNames s24
        have hs24 : RM s s24 := RM_mw hs1 (by decide)
        clear_value s24
        unfold F_X12_comesTo_180
        exact ok_some (lp_inl ⟨rfl, rfl, hs24, k + 1, h + 1, by omega, by omega, by omega, nx, e9, hrest⟩ (up_t (by omega)))
theorem law_from {s : mG} {x : Int32} (hI : IM s) (h0 : 0 ≤ x.toInt) (h1 : x.toInt < (s.1 89 117).toInt) : ∃ a b : Nat, b ≤ 410 ∧ s.1 89 ((c16 985) + x).toNatClampNeg = cn a ∧ s.1 89 ((c16 1001) + x).toNatClampNeg = cn b ∧ a ≤ b ∧ Rc (fun j => s.1 89 (1050 + j)) a (b - a) 0 1 := by
  have i := im_117 hI
  obtain ⟨a, b, c, hc, hab, hbc, ea, eb, ec, r1, r2⟩ := im_law hI h0 h1
  refine ⟨a, b, by omega, ?_, ?_, hab, r1⟩
  · rw [r_ix (b := 985) (by decide) h0 (by omega) (by decide)]; exact ea
  · rw [r_ix (b := 1001) (by decide) h0 (by omega) (by decide)]; exact eb
theorem T_X12_isSo {a1 : Int32} {s : mG} (h0 : 0 ≤ a1.toInt ∧ a1.toInt < (s.1 89 117).toInt) (hI : IM s) : ok (F_X12_isSo a1 s) (fun τ => PB τ.1 ∧ RM s τ.2) := by
  have i := im_117 hI
  obtain ⟨a, b, c, hc, hab, hbc, ea, eb, ec, r1, r2⟩ := im_law hI h0.1 h0.2
  have e17 : s.1 89 ((c16 1017) + a1).toNatClampNeg = cn c := by rw [r_ix (b := 1017) (by decide) h0.1 (by omega) (by decide)]; exact ec
  have e01 : s.1 89 ((c16 1001) + a1).toNatClampNeg = cn b := by rw [r_ix (b := 1001) (by decide) h0.1 (by omega) (by decide)]; exact eb
  unfold F_X12_isSo
  refine ok_nn (ix_ok (r_add (by decide : (c16 1017).toInt = 1017) rfl (by omega) (by omega)) (by omega) (by omega)) ?_
  refine ok_nn (ix_ok (r_add (by decide : (c16 1001).toInt = 1001) rfl (by omega) (by omega)) (by omega) (by omega)) ?_
  refine ok_ite (fun _ => ?_) (fun q => ?_)
  · unfold F_X12_isSo_52; exact ok_some ⟨pb1, RM_refl hI⟩
  · refine ok_nn (ix_ok (r_add (by decide : (c16 1001).toInt = 1001) rfl (by omega) (by omega)) (by omega) (by omega)) ?_
    refine ok_nn (ix_ok (r_add (by decide : (c16 1017).toInt = 1017) rfl (by omega) (by omega)) (by omega) (by omega)) ?_
    refine ok_b2 (T_X12_comesTo ⟨b, c, hc, e01, e17, hbc, r2.resolve_left (fun w => q (by rw [e17, e01, w]))⟩ hI) (fun v8 s7 (hs : True ∧ RM s s7) => ?_)
    refine ok_ite (fun _ => ?_) (fun _ => ?_)
    · unfold F_X12_isSo_52; exact ok_some ⟨pb1, hs.2⟩
    · exact ok_some ⟨pb0, hs.2⟩
theorem T_X12_isOnBoard {s : mG} {a1 : Int32} (h_a1 : 0 ≤ a1.toInt ∧ a1.toInt < 12) (hI : IM s) : ok (F_X12_isOnBoard s a1) (fun (v : Int32) => PB v) := by
  have hR : RM s s := RM_refl hI
  unfold F_X12_isOnBoard
  refine ok_nn (ix_ok (r_add (by decide : (c8 15).toInt = 15) (rfl : (a1).toInt = _) (by omega) (by omega)) (by omega) (by omega)) ?_
  refine ok_ite (fun h_1 => ?_) (fun h_2 => ?_)
  · exact ok_some pb0
  · exact ok_some pb1
theorem T_X12_without {s : mG} {a1 : Int32} {a2 : Int32} (h_a2 : 0 ≤ a2.toInt ∧ a2.toInt < 12) (hI : IM s) : ok (F_X12_without s a1 a2) (fun (v : Int32) => 0 ≤ v.toInt ∧ v.toInt ≤ 1000) := by
  have hR : RM s s := RM_refl hI
  unfold F_X12_without
  refine ok_ite (fun h_1 => ?_) (fun h_2 => ?_)
  · have hc_3 := r_eq (rfl : (a1).toInt = _) (by decide : (ci 20).toInt = 20) h_1
    exact ok_some ⟨by decide, by decide⟩
  · have hc_4 := r_ne (rfl : (a1).toInt = _) (by decide : (ci 20).toInt = 20) h_2
    refine ok_ite (fun h_5 => ?_) (fun h_6 => ?_)
    · have hc_7 := r_eq (rfl : (a1).toInt = _) (by decide : (ci 21).toInt = 21) h_5
      exact ok_some ⟨by decide, by decide⟩
    · have hc_8 := r_ne (rfl : (a1).toInt = _) (by decide : (ci 21).toInt = 21) h_6
      refine ok_ite (fun h_9 => ?_) (fun h_10 => ?_)
      · have hc_11 := r_eq (rfl : (a1).toInt = _) (by decide : (ci 22).toInt = 22) h_9
        exact ok_some ⟨by decide, by decide⟩
      · have hc_12 := r_ne (rfl : (a1).toInt = _) (by decide : (ci 22).toInt = 22) h_10
        refine ok_ite (fun h_13 => ?_) (fun h_14 => ?_)
        · have hc_15 := r_eq (rfl : (a1).toInt = _) (by decide : (ci 23).toInt = 23) h_13
          exact ok_some ⟨by decide, by decide⟩
        · have hc_16 := r_ne (rfl : (a1).toInt = _) (by decide : (ci 23).toInt = 23) h_14
          refine ok_ite (fun h_17 => ?_) (fun h_18 => ?_)
          · have hc_19 := r_eq (rfl : (a1).toInt = _) (by decide : (ci 24).toInt = 24) h_17
            exact ok_some ⟨by decide, by decide⟩
          · have hc_20 := r_ne (rfl : (a1).toInt = _) (by decide : (ci 24).toInt = 24) h_18
            refine ok_b1 (T_X12_isOnBoard ⟨by omega, by omega⟩ hR.1) (fun v_21 (hv_22 : PB v_21) => ?_)
            refine ok_ite (fun h_23 => ?_) (fun h_24 => ?_)
            · have hc_25 := r_eq (rfl : (v_21).toInt = _) (by decide : (0 : Int32).toInt = 0) h_23
              exact ok_some ⟨by decide, by decide⟩
            · have hc_26 := r_ne (rfl : (v_21).toInt = _) (by decide : (0 : Int32).toInt = 0) h_24
              exact ok_some ⟨by decide, by decide⟩
end
