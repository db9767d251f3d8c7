/-! THE REFERENCE: guests, callers, rooms, the image, the tape -/
theorem IM_floor {s : mG} {k : Nat} {v : Int32} (h : IM s) (hk : k < 12) (hv : 0 ≤ v.toInt ∧ v.toInt ≤ 3) : IM (mu s.1 89 (119 + k) v, s.2) := by
  have e112 : (mu s.1 89 (119 + k) v, s.2).1 89 112 = s.1 89 112 := mu_cellP (by omega)
  refine IM_mk h ?_ ?_ e112 (mu_rowP (by decide)) (mu_rowP (by decide)) (mu_cellP (by omega)) (mu_cellP (by omega)) (mu_cellP (by omega))
  · obtain ⟨q1, q2, q3, q4, q5, q6, q7, q8, q9, q10, q11⟩ := h.1
    have c : ∀ j, j ≠ 119 + k → (mu s.1 89 (119 + k) v, s.2).1 89 j = s.1 89 j := fun j hj => mu_cellP (Or.inr hj)
    refine ⟨by rw [c _ (by omega)]; exact q1, by rw [c _ (by omega)]; exact q2, by rw [c _ (by omega)]; exact q3, by rw [c _ (by omega)]; exact q4, by rw [c _ (by omega)]; exact q5, by rw [c _ (by omega)]; exact q6, fun a ha => ?_, fun a ha hl => ?_, fun a ha hl => ?_, fun a ha hl => ?_, fun a ha hl => ?_⟩
    · by_cases e : a = k
      · subst e; rw [show (mu s.1 89 (119 + a) v, s.2).1 89 (119 + a) = v from mu_sameP]; exact hv
      · rw [c _ (by omega)]; exact q7 a ha
    · rw [c _ (by omega)] at hl; rw [c _ (by omega)]; exact q8 a ha hl
    · rw [c _ (by omega)] at hl; rw [c _ (by omega)]; exact q9 a ha hl
    · rw [c _ (by omega)] at hl; rw [c _ (by omega)]; exact q10 a ha hl
    · rw [c _ (by omega)] at hl; exact LawOK_congr ha (fun j hj => c j (by omega)) (q11 a ha hl)
  · rw [e112]; exact KI_congr (fun j hj => mu_cellP (Or.inr (by unfold kK at hj; omega))) h.2.1
theorem IM_keyfree {s : mG} {n : Nat} {v : Int32} (h : IM s) (hn : (s.1 89 112).toInt ≤ n) (hn12 : n < 12) : IM (mu s.1 89 (15 + n) v, s.2) := by
  have e112 : (mu s.1 89 (15 + n) v, s.2).1 89 112 = s.1 89 112 := mu_cellP (by omega)
  refine IM_mk h ?_ ?_ e112 (mu_rowP (by decide)) (mu_rowP (by decide)) (mu_cellP (by omega)) (mu_cellP (by omega)) (mu_cellP (by omega))
  · exact WI_congr (fun j hj => mu_cellP (Or.inr fun e => by subst e; unfold kW at hj; omega)) h.1
  · rw [e112]
    have c : ∀ a : Nat, (a : Int) < (s.1 89 112).toInt → (mu s.1 89 (15 + n) v, s.2).1 89 (15 + a) = s.1 89 (15 + a) := fun a ha => mu_cellP (by omega)
    refine ⟨?_, fun a ha hn => ?_, fun a b ha hb hn hm he hz => ?_⟩
    · rw [show (mu s.1 89 (15 + n) v, s.2).1 89 2 = s.1 89 2 from mu_cellP (by omega)]; exact h.2.1.1
    · rw [c a hn]; exact h.2.1.2.1 a ha hn
    · rw [c a hn, c b hm] at he; rw [c a hn] at hz; exact h.2.1.2.2 a b ha hb hn hm he hz
theorem IM_guest {s s' : mG} {n : Nat} (h : IM s) (hn : (s.1 89 112).toInt = n) (hn12 : n < 12) (hk : s.1 89 (15 + n) = ci (-1)) (hs : s' = (mu (mu s.1 89 112 (s.1 89 112 + ci 1)) 88 3 (ci 0), s.2)) : RW s s' := by
  have z : (ci 0).toInt = 0 := by decide
  have t1 : (s.1 89 112 + ci 1).toInt = (n : Int) + 1 := by rw [t_up (by omega), hn]
  have e3 : s'.1 88 3 = ci 0 := by rw [hs]; exact (mu_same : mu (mu s.1 89 112 (s.1 89 112 + ci 1)) 88 3 (ci 0) 88 3 = ci 0)
  have e88 : ∀ k, k ≠ 3 → s'.1 88 k = s.1 88 k := fun k hk => by
    rw [hs]
    exact (mu_cell (Or.inr hk) : mu (mu s.1 89 112 (s.1 89 112 + ci 1)) 88 3 (ci 0) 88 k = _).trans (mu_cell (Or.inl (by decide)))
  have row : ∀ j, j ≠ 88 → j ≠ 89 → s'.1 j = s.1 j := fun j h1 h2 => by
    rw [hs]
    exact (mu_row h1 : mu (mu s.1 89 112 (s.1 89 112 + ci 1)) 88 3 (ci 0) j = _).trans (mu_row h2)
  have c : ∀ k, k ≠ 112 → s'.1 89 k = s.1 89 k := fun k hk => by
    rw [hs]
    exact (mu_cell (Or.inl (by decide)) : mu (mu s.1 89 112 (s.1 89 112 + ci 1)) 88 3 (ci 0) 89 k = _).trans (mu_cell (Or.inr hk))
  have e112 : s'.1 89 112 = s.1 89 112 + ci 1 := by
    rw [hs]
    exact (mu_cell (Or.inl (by decide)) : mu (mu s.1 89 112 (s.1 89 112 + ci 1)) 88 3 (ci 0) 89 112 = _).trans mu_same
  clear hs
  refine ⟨⟨?_, ?_, ?_, ?_, ?_, ?_⟩, fun j hj => row j (by omega) (by omega), e88 15 (by decide)⟩
  · obtain ⟨q1, q2, q3, q4, q5, q6, q7, q8, q9, q10, q11⟩ := h.1
    refine ⟨by rw [e112, t1]; omega, by rw [c _ (by omega)]; exact q2, by rw [c _ (by omega)]; exact q3, by rw [c _ (by omega)]; exact q4, by rw [c _ (by omega)]; exact q5, by rw [c _ (by omega)]; exact q6, fun a ha => ?_, fun a ha hl => ?_, fun a ha hl => ?_, fun a ha hl => ?_, fun a ha hl => ?_⟩
    · rw [c _ (by omega)]; exact q7 a ha
    · rw [c _ (by omega)] at hl; rw [c _ (by omega)]; exact q8 a ha hl
    · rw [c _ (by omega)] at hl; rw [c _ (by omega)]; exact q9 a ha hl
    · rw [c _ (by omega)] at hl; rw [c _ (by omega)]; exact q10 a ha hl
    · rw [c _ (by omega)] at hl; exact LawOK_congr ha (fun j hj => c j (by omega)) (q11 a ha hl)
  · rw [e112, t1]
    have m1 : (ci (-1)).toInt = -1 := by decide
    refine ⟨by rw [c _ (by omega)]; exact h.2.1.1, fun a ha hl => ?_, fun a b ha hb hl hm he hz => ?_⟩
    · rw [c _ (by omega)]
      by_cases e : a = n
      · subst e; rw [hk, m1]; omega
      · have := h.2.1.2.1 a ha (by omega)
        omega
    · rw [c _ (by omega), c _ (by omega)] at he
      rw [c _ (by omega)] at hz
      by_cases e : a = n
      · subst e; exact absurd hk hz
      · by_cases w : b = n
        · subst w; exact absurd (he.trans hk) hz
        · exact h.2.1.2.2 a b ha hb (by omega) (by omega) he hz
  · rw [e88 4 (by decide), row 90 (by decide) (by decide)]; exact h.2.2.1
  · rw [e3, z]; omega
  · intro j _ hl; rw [e3, z] at hl; omega
  · rw [e88 15 (by decide)]; exact h.2.2.2.2.2
theorem keepc {s : mG} {e v : Int32} {m : Int} {k : Nat} (he : e.toInt = m) (hm : m ≠ k) (h0 : 0 ≤ m) : ((mu s.1 89 e.toNatClampNeg v, s.2) : mG).1 89 k = s.1 89 k := mu_cellP (Or.inr (by rw [t_nat, he]; omega))
def gdr (a1 a2 n : Int32) : Int32 := if wi a1 (ci 0) (ci 3) = 0 ∨ wi a2 (ci 0) (c8 99) = 0 ∨ n = c8 12 then ci (-1) else n
def gdl (a1 a2 n : Int32) : Int32 := if wi a1 (ci 0) (ci 3) = 0 ∨ wi a2 (ci 0) (c8 99) = 0 ∨ n = c8 12 then n else n + ci 1
def GU (a1 a2 : Int32) (s : mG) (τ : Int32 × mG) : Prop := RW s τ.2 ∧ τ.1 = gdr a1 a2 (s.1 89 112) ∧ τ.2.1 89 112 = gdl a1 a2 (s.1 89 112) ∧ ∀ j, SK j → j ≠ 112 → τ.2.1 89 j = s.1 89 j
theorem T_X12_guest {a1 a2 : Int32} {s : mG} (hI : IM s) : ok (F_X12_guest a1 a2 s) (GU a1 a2 s) := by
  have i := im_112 hI
  unfold F_X12_guest F_X12_guest_31
  have no : (wi a1 (ci 0) (ci 3) = 0 ∨ wi a2 (ci 0) (c8 99) = 0 ∨ s.1 89 112 = c8 12) → ok (some ((ci (-1)), s)) (GU a1 a2 s) := fun h => ok_some ⟨RW_refl hI, by unfold gdr; rw [if_pos h], by unfold gdl; rw [if_pos h], fun _ _ _ => rfl⟩
  rw [F_isIn, b1_some]
  refine ok_ite (fun c2 => no (Or.inl c2)) (fun c2 => ?_)
  have f2 := isin_f (a := a1) (by decide : (ci 0).toInt = 0) (by decide : (ci 3).toInt = 3) (wi_f c2)
  rw [F_isIn, b1_some]
  refine ok_ite (fun c3 => no (Or.inr (Or.inl c3))) (fun c3 => ?_)
  refine ok_ite (fun c => no (Or.inr (Or.inr c))) (fun c => ?_)
  have yes : ¬ (wi a1 (ci 0) (ci 3) = 0 ∨ wi a2 (ci 0) (c8 99) = 0 ∨ s.1 89 112 = c8 12) := fun h => h.elim c2 (fun h => h.elim c3 c)
  have c1 := r_ne (rfl : (s.1 89 112).toInt = _) (by decide : (c8 12).toInt = 12) c
  obtain ⟨n, en⟩ : ∃ n : Nat, (s.1 89 112).toInt = (n : Int) := ⟨(s.1 89 112).toInt.toNat, by omega⟩
  have E : ∀ {c : Int32} {b : Nat}, c.toInt = (b : Int) → b < 1000 → (c + s.1 89 112).toInt = (b : Int) + n := fun hc hb => r_add hc en (by omega) (by omega)
  refine ok_nn (ix_ok (E (b := 119) (by decide) (by decide)) (by omega) (by omega)) ?_
  rw [r_nat2 (e := (c8 119) + (s.1 89 112)) (m := 119 + n) (E (b := 119) (by decide) (by decide)) (by omega)]
  extract_lets +onlyGivenNames s9
  have h9 : RX s s9 := RX_mk (RX_refl hI) (IM_floor hI (by omega) f2) (fun j hj => mu_rowP (by omega)) (mu_cellP (by omega)) (fun j hj => mu_cellP (by unfold SK at hj; omega))
  clear_value s9
  refine ok_nn (ix_ok (E (b := 131) (by decide) (by decide)) (by omega) (by omega)) ?_
  extract_lets +onlyGivenNames s11
  have h11 : RX s s11 := RX_fe h9 (E (b := 131) (by decide) (by decide)) (by unfold fr kW kK SK; omega)
  clear_value s11
  refine ok_nn (ix_ok (E (b := 3) (by decide) (by decide)) (by omega) (by omega)) ?_
  extract_lets +onlyGivenNames s13
  have h13 : RX s s13 := RX_fe h11 (E (b := 3) (by decide) (by decide)) (by unfold fr kW kK SK; omega)
  clear_value s13
  refine ok_nn (ix_ok (E (b := 15) (by decide) (by decide)) (by omega) (by omega)) ?_
  rw [r_nat2 (e := (c8 15) + (s.1 89 112)) (m := 15 + n) (E (b := 15) (by decide) (by decide)) (by omega)]
  extract_lets +onlyGivenNames s15
  have h15 : RX s s15 := RX_mk h13 (IM_keyfree h13.1.1 (by rw [RX_112 h13]; omega) (by omega)) (fun j hj => mu_rowP (by omega)) (mu_cellP (by omega)) (fun j hj => mu_cellP (by unfold SK at hj; omega))
  have k15 : s15.1 89 (15 + n) = ci (-1) := mu_sameP
  clear_value s15
  refine ok_nn (ix_ok (E (b := 27) (by decide) (by decide)) (by omega) (by omega)) ?_
  extract_lets +onlyGivenNames s17
  have h17 : RX s s17 := RX_fe h15 (E (b := 27) (by decide) (by decide)) (by unfold fr kW kK SK; omega)
  have k17 : s17.1 89 (15 + n) = ci (-1) := (keepc (E (b := 27) (by decide) (by decide)) (by omega) (by omega) : s17.1 89 (15 + n) = s15.1 89 (15 + n)).trans k15
  clear_value s17
  unfold F_X12_guest_L94
  refine ok_whl (fun v => s.1 89 112 = v.1 ∧ RX s v.2.2 ∧ 0 ≤ v.2.1.toInt ∧ v.2.2.1 89 (15 + n) = ci (-1)) (fun v => mUp v.2.1) ⟨rfl, h17, show 0 ≤ (ci 0).toInt by decide, k17⟩ (fun v hv => ?_)
  obtain ⟨x3, x4, s1⟩ := v
  obtain ⟨r0, r1, r2, r3⟩ := hv
  have h0 : s.1 89 112 = x3 := r0
  have h1 : RX s s1 := r1
  have h2 : 0 ≤ x4.toInt := r2
  have h3 : s1.1 89 (15 + n) = ci (-1) := r3
  clear r0 r1 r2 r3
  have e3 : x3.toInt = (n : Int) := by rw [← h0]; exact en
  show ok (F_X12_guest_B94 x3 x4 s1) _
  unfold F_X12_guest_B94
  refine ok_ite (fun _ => ?_) (fun c => ?_)
  · extract_lets +onlyGivenNames s19
    unfold F_X12_forgets
    have hq : ∀ s', s' = (mu s19.1 88 3 (ci 0), s19.2) → RW s1 s' := fun s' hs' => IM_guest h1.1.1 (by rw [RX_112 h1]; exact en) (by omega) h3 hs'
    have e19 : s19.1 89 112 = s1.1 89 112 + ci 1 := mu_sameP
    have k19 : ∀ j, j ≠ 112 → s19.1 89 j = s1.1 89 j := fun j hj => mu_cellP (Or.inr hj)
    clear_value s19
    refine ok_b1 (ok_some (Q := fun s' => s' = (mu s19.1 88 3 (ci 0), s19.2)) rfl) (fun s21 hs21 => ?_)
    have q112 : s21.1 89 112 = s1.1 89 112 + ci 1 := by rw [hs21]; exact (congrFun (mu_rowP (by decide)) 112).trans e19
    have qk : ∀ j, SK j → j ≠ 112 → s21.1 89 j = s1.1 89 j := fun j _ hj => by rw [hs21]; exact (congrFun (mu_rowP (by decide)) j).trans (k19 j hj)
    refine ok_some (lp_inr ⟨RW_tr h1.1 (hq s21 hs21), ?_, ?_, fun j hj hn => (qk j hj hn).trans (h1.2 j hj)⟩)
    · unfold gdr; rw [if_neg yes]; exact h0.symm
    · unfold gdl; rw [if_neg yes, q112, RX_112 h1]
  · have c4 := r_nle (by decide : (c8 6).toInt = 6) (rfl : x4.toInt = _) c
    have E2 : (((c8 39) + ((c8 6) * x3)) + x4).toInt = 39 + 6 * (n : Int) + x4.toInt := r_add (r_add (by decide) (r_mul (by decide) e3 (by omega) (by omega)) (by omega) (by omega)) rfl (by omega) (by omega)
    refine ok_nn (ix_ok E2 (by omega) (by omega)) ?_
    extract_lets +onlyGivenNames s23
    have h23 : RX s s23 := RX_fe h1 E2 (by clear E2; unfold fr kW kK SK; omega)
    have k23 : s23.1 89 (15 + n) = ci (-1) := (keepc E2 (by clear E2; omega) (by clear E2; omega) : s23.1 89 (15 + n) = s1.1 89 (15 + n)).trans h3
    clear_value s23
    clear E2
    exact ok_some (lp_inl ⟨h0, h23, up_0 (x := x4) h2 (by omega), k23⟩ (up_t (x := x4) (by omega)))
/-! callers and rooms -/
theorem IM_c1 {s : mG} {n : Nat} {v : Int32} (h : IM s) (hn : (s.1 89 1049).toInt ≤ n) (hn8 : n < 8) : IM (mu s.1 89 (1870 + 3 * n) v, s.2) := by
  have e112 : (mu s.1 89 (1870 + 3 * n) v, s.2).1 89 112 = s.1 89 112 := mu_cellP (by omega)
  refine IM_mk h ?_ ?_ e112 (mu_rowP (by decide)) (mu_rowP (by decide)) (mu_cellP (by omega)) (mu_cellP (by omega)) (mu_cellP (by omega))
  · obtain ⟨q1, q2, q3, q4, q5, q6, q7, q8, q9, q10, q11⟩ := h.1
    have c : ∀ j, j ≠ 1870 + 3 * n → (mu s.1 89 (1870 + 3 * n) v, s.2).1 89 j = s.1 89 j := fun j hj => mu_cellP (Or.inr hj)
    refine ⟨by rw [c _ (by omega)]; exact q1, by rw [c _ (by omega)]; exact q2, by rw [c _ (by omega)]; exact q3, by rw [c _ (by omega)]; exact q4, by rw [c _ (by omega)]; exact q5, by rw [c _ (by omega)]; exact q6, fun a ha => ?_, fun a ha hl => ?_, fun a ha hl => ?_, fun a ha hl => ?_, fun a ha hl => ?_⟩
    · rw [c _ (by omega)]; exact q7 a ha
    · rw [c _ (by omega)] at hl; rw [c _ (by omega)]; exact q8 a ha hl
    · rw [c _ (by omega)] at hl; rw [c _ (by omega)]; exact q9 a ha hl
    · rw [c _ (by omega)] at hl; rw [c _ (by omega)]; exact q10 a ha hl
    · rw [c _ (by omega)] at hl; exact LawOK_congr ha (fun j hj => c j (by omega)) (q11 a ha hl)
  · rw [e112]; exact KI_congr (fun j hj => mu_cellP (Or.inr (by unfold kK at hj; omega))) h.2.1
theorem IM_c2 {s : mG} {v : Int32} (h : IM s) (hv : 0 ≤ v.toInt ∧ v.toInt ≤ 8) (hc : ∀ k : Nat, k < 8 → (k : Int) < v.toInt → 0 ≤ (s.1 89 (1870 + 3 * k)).toInt ∧ (s.1 89 (1870 + 3 * k)).toInt < 12) : IM (mu s.1 89 1049 v, s.2) := by
  have e112 : (mu s.1 89 1049 v, s.2).1 89 112 = s.1 89 112 := mu_cellP (by omega)
  refine IM_mk h ?_ ?_ e112 (mu_rowP (by decide)) (mu_rowP (by decide)) (mu_cellP (by omega)) (mu_cellP (by omega)) (mu_cellP (by omega))
  · obtain ⟨q1, q2, q3, q4, q5, q6, q7, q8, q9, q10, q11⟩ := h.1
    have c : ∀ j, j ≠ 1049 → (mu s.1 89 1049 v, s.2).1 89 j = s.1 89 j := fun j hj => mu_cellP (Or.inr hj)
    have cv : (mu s.1 89 1049 v, s.2).1 89 1049 = v := mu_sameP
    refine ⟨by rw [c _ (by omega)]; exact q1, by rw [c _ (by omega)]; exact q2, by rw [c _ (by omega)]; exact q3, by rw [c _ (by omega)]; exact q4, by rw [c _ (by omega)]; exact q5, by rw [cv]; exact hv, fun a ha => ?_, fun a ha hl => ?_, fun a ha hl => ?_, fun a ha hl => ?_, fun a ha hl => ?_⟩
    · rw [c _ (by omega)]; exact q7 a ha
    · rw [c _ (by omega)] at hl; rw [c _ (by omega)]; exact q8 a ha hl
    · rw [c _ (by omega)] at hl; rw [c _ (by omega)]; exact q9 a ha hl
    · rw [cv] at hl; rw [c _ (by omega)]; exact hc a ha hl
    · rw [c _ (by omega)] at hl
      obtain ⟨x, y, z, w1, w2, w3, w4, w5, w6, w7, w8⟩ := q11 a ha hl
      exact ⟨x, y, z, w1, w2, w3, (c _ (by omega)).trans w4, (c _ (by omega)).trans w5, (c _ (by omega)).trans w6, Rc_congr _ _ _ _ (fun j _ _ => c _ (by omega)) w7, w8.imp id (Rc_congr _ _ _ _ (fun j _ _ => c _ (by omega)))⟩
  · rw [e112]; exact KI_congr (fun j hj => mu_cellP (Or.inr (by unfold kK at hj; omega))) h.2.1
def ig (a n : Int32) : Int32 := if a < 0 then ci 0 else if n ≤ a then ci 0 else ci 1
theorem ig_pb {a n : Int32} : PB (ig a n) := by
  unfold ig
  by_cases h : a < 0
  · rw [if_pos h]; exact pb0
  · rw [if_neg h]
    by_cases h2 : n ≤ a
    · rw [if_pos h2]; exact pb0
    · rw [if_neg h2]; exact pb1
theorem ig_f {a n : Int32} (h : ¬ ig a n = 0) : 0 ≤ a.toInt ∧ a.toInt < n.toInt := by
  unfold ig at h
  by_cases h1 : a < 0
  · rw [if_pos h1] at h; exact absurd (by decide) h
  · rw [if_neg h1] at h
    by_cases h2 : n ≤ a
    · rw [if_pos h2] at h; exact absurd (by decide) h
    · exact ⟨t_nn h1, r_nle rfl rfl h2⟩
theorem wi_ig {a n : Int32} (h : 0 ≤ n.toInt ∧ n.toInt ≤ 12) : wi a (ci 0) (n - ci 1) = ig a n := by
  have e : (n - ci 1).toInt = n.toInt - 1 := r_sub rfl (by decide : (ci 1).toInt = 1) (by omega) (by omega)
  have z : ci 0 = 0 := by decide
  have q : (n - ci 1 < a) = (n ≤ a) := by
    rw [Int32.lt_iff_toInt_lt, Int32.le_iff_toInt_le, e]
    exact propext ⟨fun h => by omega, fun h => by omega⟩
  unfold wi ig
  rw [z]
  by_cases h1 : a < 0
  · rw [if_pos h1, if_pos h1]
  · rw [if_neg h1, if_neg h1]
    by_cases h2 : n ≤ a
    · rw [if_pos h2, if_pos (q ▸ h2)]
    · rw [if_neg h2, if_neg (fun k => h2 (q ▸ k))]
theorem F_isGuest {s : mG} {a : Int32} (h : 0 ≤ (s.1 89 112).toInt ∧ (s.1 89 112).toInt ≤ 12) : F_X12_isGuest s a = some (ig a (s.1 89 112)) := by
  unfold F_X12_isGuest
  rw [F_isIn, b1_some, wi_ig h]
  exact if_pos ig_pb
def car (a1 a2 a3 n m : Int32) : Int32 := if a1 = ci (-1) then ci 0 else if ig a1 n = 0 ∨ wi a2 (ci 0) (c16 999) = 0 ∨ wi a3 (ci 0) (c16 999) = 0 ∨ m = c8 8 then ci (-1) else m + ci 1
def cal (a1 a2 a3 n m : Int32) : Int32 := if a1 = ci (-1) then ci 0 else if ig a1 n = 0 ∨ wi a2 (ci 0) (c16 999) = 0 ∨ wi a3 (ci 0) (c16 999) = 0 ∨ m = c8 8 then m else m + ci 1
def CA (a1 a2 a3 : Int32) (s : mG) (τ : Int32 × mG) : Prop := RW s τ.2 ∧ τ.1 = car a1 a2 a3 (s.1 89 112) (s.1 89 1049) ∧ τ.2.1 89 1049 = cal a1 a2 a3 (s.1 89 112) (s.1 89 1049) ∧ ∀ j, SK j → j ≠ 1049 → (j < 1870 ∨ 1893 < j) → τ.2.1 89 j = s.1 89 j
theorem T_X12_caller {a1 a2 a3 : Int32} {s : mG} (hI : IM s) : ok (F_X12_caller a1 a2 a3 s) (CA a1 a2 a3 s) := by
  have i := im_112 hI
  have i2 := im_1049 hI
  unfold F_X12_caller F_X12_caller_59
  have z : (ci 0).toInt = 0 := by decide
  by_cases c0 : a1 = ci (-1)
  · rw [if_pos c0]
    exact ok_some ⟨RW_mk (RW_refl hI) (IM_c2 hI (by rw [z]; omega) (fun k _ hk => by rw [z] at hk; omega)) (fun j hj => mu_rowP (by omega)) (mu_cellP (by omega)), by unfold car; rw [if_pos c0], mu_sameP.trans (by unfold cal; rw [if_pos c0]), fun j _ hj _ => mu_cellP (Or.inr hj)⟩
  · rw [if_neg c0]
    clear z
    have no : (ig a1 (s.1 89 112) = 0 ∨ wi a2 (ci 0) (c16 999) = 0 ∨ wi a3 (ci 0) (c16 999) = 0 ∨ s.1 89 1049 = c8 8) → ok (some ((ci (-1)), s)) (CA a1 a2 a3 s) := fun h => ok_some ⟨RW_refl hI, by unfold car; rw [if_neg c0, if_pos h], by unfold cal; rw [if_neg c0, if_pos h], fun _ _ _ _ => rfl⟩
    rw [F_isGuest i, b1_some]
    refine ok_ite (fun c4 => no (Or.inl c4)) (fun c4 => ?_)
    have f4 := ig_f c4
    rw [F_isIn, b1_some]
    refine ok_ite (fun d0 => no (Or.inr (Or.inl d0))) (fun d0 => ?_)
    rw [F_isIn, b1_some]
    refine ok_ite (fun d1 => no (Or.inr (Or.inr (Or.inl d1)))) (fun d1 => ?_)
    refine ok_ite (fun c => no (Or.inr (Or.inr (Or.inr c)))) (fun c => ?_)
    have yes : ¬ (ig a1 (s.1 89 112) = 0 ∨ wi a2 (ci 0) (c16 999) = 0 ∨ wi a3 (ci 0) (c16 999) = 0 ∨ s.1 89 1049 = c8 8) := fun h => h.elim c4 (fun h => h.elim d0 (fun h => h.elim d1 c))
    have c1 := r_ne (rfl : (s.1 89 1049).toInt = _) (by decide : (c8 8).toInt = 8) c
    obtain ⟨n, en⟩ : ∃ n : Nat, (s.1 89 1049).toInt = (n : Int) := ⟨(s.1 89 1049).toInt.toNat, by omega⟩
    extract_lets +onlyGivenNames v13
    have e : v13.toInt = 1870 + 3 * (n : Int) := r_add (by decide) (r_mul (by decide) en (by omega) (by omega)) (by omega) (by omega)
    clear_value v13
    refine ok_nn (ix_ok e (by omega) (by omega)) ?_
    rw [r_nat2 (m := 1870 + 3 * n) e (by omega)]
    extract_lets +onlyGivenNames s15
    have h15 : RW s s15 := RW_mk (RW_refl hI) (IM_c1 hI (by omega) (by omega)) (fun j hj => mu_rowP (by omega)) (mu_cellP (by omega))
    have k15 : ∀ k, k ≠ 1870 + 3 * n → s15.1 89 k = s.1 89 k := fun k hk => mu_cellP (Or.inr hk)
    have w15 : s15.1 89 (1870 + 3 * n) = a1 := mu_sameP
    clear_value s15
    refine ok_nn (ix_ok (r_add e (by decide : (ci 1).toInt = 1) (by omega) (by omega)) (by omega) (by omega)) ?_
    extract_lets +onlyGivenNames s17
    have h17 : RW s s17 := RW_fe h15 (r_add e (by decide : (ci 1).toInt = 1) (by omega) (by omega)) (by unfold fw kW kK; omega)
    have k17 : ∀ k : Nat, (1870 + 3 * (n : Int) + 1) ≠ k → s17.1 89 k = s15.1 89 k := fun k hk => keepc (r_add e (by decide : (ci 1).toInt = 1) (by omega) (by omega)) hk (by omega)
    clear_value s17
    refine ok_nn (ix_ok (r_add e (by decide : (ci 2).toInt = 2) (by omega) (by omega)) (by omega) (by omega)) ?_
    extract_lets +onlyGivenNames s19
    have h19 : RW s s19 := RW_fe h17 (r_add e (by decide : (ci 2).toInt = 2) (by omega) (by omega)) (by unfold fw kW kK; omega)
    have k19 : ∀ k : Nat, (1870 + 3 * (n : Int) + 2) ≠ k → s19.1 89 k = s17.1 89 k := fun k hk => keepc (r_add e (by decide : (ci 2).toInt = 2) (by omega) (by omega)) hk (by omega)
    clear_value s19
    have q : s19.1 89 1049 = s.1 89 1049 := by rw [k19 _ (by omega), k17 _ (by omega), k15 _ (by omega)]
    extract_lets +onlyGivenNames s20
    have I20 : IM s20 := by
      refine IM_c2 h19.1 (by rw [q, t_up (by omega)]; omega) (fun k hk hl => ?_)
      rw [q, t_up (by omega), en] at hl
      rw [k19 _ (by omega), k17 _ (by omega)]
      by_cases w : k = n
      · subst w; rw [w15]; omega
      · rw [k15 _ (by omega)]; exact hI.1.2.2.2.2.2.2.2.2.2.1 k hk (by omega)
    have h20 : RW s s20 := RW_mk h19 I20 (fun j hj => mu_rowP (by omega)) (mu_cellP (by omega))
    have e1 : s20.1 89 1049 = s19.1 89 1049 + ci 1 := mu_sameP
    have kk : ∀ j, j ≠ 1049 → s20.1 89 j = s19.1 89 j := fun j hj => mu_cellP (Or.inr hj)
    clear_value s20
    refine ok_some ⟨h20, ?_, ?_, fun j hj hn hr => ?_⟩
    · unfold car; rw [if_neg c0, if_neg yes, ← q]; exact e1
    · unfold cal; rw [if_neg c0, if_neg yes, ← q]; exact e1
    · rw [kk j hn, k19 _ (by omega), k17 _ (by omega), k15 _ (by omega)]
theorem IM_r1 {s : mG} {n : Nat} {v : Int32} (h : IM s) (hn : (s.1 89 118).toInt ≤ n) (hn8 : n < 8) : IM (mu s.1 89 (203 + 4 * n) v, s.2) := by
  have e112 : (mu s.1 89 (203 + 4 * n) v, s.2).1 89 112 = s.1 89 112 := mu_cellP (by omega)
  refine IM_mk h ?_ ?_ e112 (mu_rowP (by decide)) (mu_rowP (by decide)) (mu_cellP (by omega)) (mu_cellP (by omega)) (mu_cellP (by omega))
  · obtain ⟨q1, q2, q3, q4, q5, q6, q7, q8, q9, q10, q11⟩ := h.1
    have c : ∀ j, j ≠ 203 + 4 * n → (mu s.1 89 (203 + 4 * n) v, s.2).1 89 j = s.1 89 j := fun j hj => mu_cellP (Or.inr hj)
    refine ⟨by rw [c _ (by omega)]; exact q1, by rw [c _ (by omega)]; exact q2, by rw [c _ (by omega)]; exact q3, by rw [c _ (by omega)]; exact q4, by rw [c _ (by omega)]; exact q5, by rw [c _ (by omega)]; exact q6, fun a ha => ?_, fun a ha hl => ?_, fun a ha hl => ?_, fun a ha hl => ?_, fun a ha hl => ?_⟩
    · rw [c _ (by omega)]; exact q7 a ha
    · rw [c _ (by omega)] at hl; rw [c _ (by omega)]; exact q8 a ha hl
    · rw [c _ (by omega)] at hl; rw [c _ (by omega)]; exact q9 a ha hl
    · rw [c _ (by omega)] at hl; rw [c _ (by omega)]; exact q10 a ha hl
    · rw [c _ (by omega)] at hl; exact LawOK_congr ha (fun j hj => c j (by omega)) (q11 a ha hl)
  · rw [e112]; exact KI_congr (fun j hj => mu_cellP (Or.inr (by unfold kK at hj; omega))) h.2.1
theorem IM_r2 {s : mG} {v : Int32} (h : IM s) (hv : 0 ≤ v.toInt ∧ v.toInt ≤ 8) (hc : ∀ k : Nat, k < 8 → (k : Int) < v.toInt → 0 ≤ (s.1 89 (203 + 4 * k)).toInt ∧ (s.1 89 (203 + 4 * k)).toInt < 12) : IM (mu s.1 89 118 v, s.2) := by
  have e112 : (mu s.1 89 118 v, s.2).1 89 112 = s.1 89 112 := mu_cellP (by omega)
  refine IM_mk h ?_ ?_ e112 (mu_rowP (by decide)) (mu_rowP (by decide)) (mu_cellP (by omega)) (mu_cellP (by omega)) (mu_cellP (by omega))
  · obtain ⟨q1, q2, q3, q4, q5, q6, q7, q8, q9, q10, q11⟩ := h.1
    have c : ∀ j, j ≠ 118 → (mu s.1 89 118 v, s.2).1 89 j = s.1 89 j := fun j hj => mu_cellP (Or.inr hj)
    have cv : (mu s.1 89 118 v, s.2).1 89 118 = v := mu_sameP
    refine ⟨by rw [c _ (by omega)]; exact q1, by rw [c _ (by omega)]; exact q2, by rw [c _ (by omega)]; exact q3, by rw [c _ (by omega)]; exact q4, by rw [cv]; exact hv, by rw [c _ (by omega)]; exact q6, fun a ha => ?_, fun a ha hl => ?_, fun a ha hl => ?_, fun a ha hl => ?_, fun a ha hl => ?_⟩
    · rw [c _ (by omega)]; exact q7 a ha
    · rw [c _ (by omega)] at hl; rw [c _ (by omega)]; exact q8 a ha hl
    · rw [cv] at hl; rw [c _ (by omega)]; exact hc a ha hl
    · rw [c _ (by omega)] at hl; rw [c _ (by omega)]; exact q10 a ha hl
    · rw [c _ (by omega)] at hl; exact LawOK_congr ha (fun j hj => c j (by omega)) (q11 a ha hl)
  · rw [e112]; exact KI_congr (fun j hj => mu_cellP (Or.inr (by unfold kK at hj; omega))) h.2.1
def ror (a1 a2 a3 a4 n m : Int32) : Int32 := if a1 = ci (-1) then ci 0 else if ig a1 n = 0 ∨ wi a2 (ci 1) (c8 99) = 0 ∨ wi a3 (ci 1) (c16 999) = 0 ∨ wi a4 (ci 0) (c8 99) = 0 ∨ m = c8 8 then ci (-1) else m + ci 1
def rol (a1 a2 a3 a4 n m : Int32) : Int32 := if a1 = ci (-1) then ci 0 else if ig a1 n = 0 ∨ wi a2 (ci 1) (c8 99) = 0 ∨ wi a3 (ci 1) (c16 999) = 0 ∨ wi a4 (ci 0) (c8 99) = 0 ∨ m = c8 8 then m else m + ci 1
def RO (a1 a2 a3 a4 : Int32) (s : mG) (τ : Int32 × mG) : Prop := RW s τ.2 ∧ τ.1 = ror a1 a2 a3 a4 (s.1 89 112) (s.1 89 118) ∧ τ.2.1 89 118 = rol a1 a2 a3 a4 (s.1 89 112) (s.1 89 118) ∧ ∀ j, SK j → j ≠ 118 → (j < 203 ∨ 234 < j) → τ.2.1 89 j = s.1 89 j
theorem T_X12_room {a1 a2 a3 a4 : Int32} {s : mG} (hI : IM s) : ok (F_X12_room a1 a2 a3 a4 s) (RO a1 a2 a3 a4 s) := by
  have i := im_112 hI
  have i2 := im_118 hI
  unfold F_X12_room F_X12_room_67
  have z : (ci 0).toInt = 0 := by decide
  by_cases c0 : a1 = ci (-1)
  · rw [if_pos c0]
    exact ok_some ⟨RW_mk (RW_refl hI) (IM_r2 hI (by rw [z]; omega) (fun k _ hk => by rw [z] at hk; omega)) (fun j hj => mu_rowP (by omega)) (mu_cellP (by omega)), by unfold ror; rw [if_pos c0], mu_sameP.trans (by unfold rol; rw [if_pos c0]), fun j _ hj _ => mu_cellP (Or.inr hj)⟩
  · rw [if_neg c0]
    clear z
    have no : (ig a1 (s.1 89 112) = 0 ∨ wi a2 (ci 1) (c8 99) = 0 ∨ wi a3 (ci 1) (c16 999) = 0 ∨ wi a4 (ci 0) (c8 99) = 0 ∨ s.1 89 118 = c8 8) → ok (some ((ci (-1)), s)) (RO a1 a2 a3 a4 s) := fun h => ok_some ⟨RW_refl hI, by unfold ror; rw [if_neg c0, if_pos h], by unfold rol; rw [if_neg c0, if_pos h], fun _ _ _ _ => rfl⟩
    rw [F_isGuest i, b1_some]
    refine ok_ite (fun c4 => no (Or.inl c4)) (fun c4 => ?_)
    have f4 := ig_f c4
    rw [F_isIn, b1_some]
    refine ok_ite (fun d0 => no (Or.inr (Or.inl d0))) (fun d0 => ?_)
    rw [F_isIn, b1_some]
    refine ok_ite (fun d1 => no (Or.inr (Or.inr (Or.inl d1)))) (fun d1 => ?_)
    rw [F_isIn, b1_some]
    refine ok_ite (fun d2 => no (Or.inr (Or.inr (Or.inr (Or.inl d2))))) (fun d2 => ?_)
    refine ok_ite (fun c => no (Or.inr (Or.inr (Or.inr (Or.inr c))))) (fun c => ?_)
    have yes : ¬ (ig a1 (s.1 89 112) = 0 ∨ wi a2 (ci 1) (c8 99) = 0 ∨ wi a3 (ci 1) (c16 999) = 0 ∨ wi a4 (ci 0) (c8 99) = 0 ∨ s.1 89 118 = c8 8) := fun h => h.elim c4 (fun h => h.elim d0 (fun h => h.elim d1 (fun h => h.elim d2 c)))
    have c1 := r_ne (rfl : (s.1 89 118).toInt = _) (by decide : (c8 8).toInt = 8) c
    obtain ⟨n, en⟩ : ∃ n : Nat, (s.1 89 118).toInt = (n : Int) := ⟨(s.1 89 118).toInt.toNat, by omega⟩
    extract_lets +onlyGivenNames v16
    have e : v16.toInt = 203 + 4 * (n : Int) := r_add (by decide) (r_mul (by decide) en (by omega) (by omega)) (by omega) (by omega)
    clear_value v16
    refine ok_nn (ix_ok (r_add e (by decide : (ci 0).toInt = 0) (by omega) (by omega)) (by omega) (by omega)) ?_
    rw [r_nat2 (e := v16 + (ci 0)) (m := 203 + 4 * n) (r_add e (by decide : (ci 0).toInt = 0) (by omega) (by omega)) (by omega)]
    extract_lets +onlyGivenNames s18
    have h18 : RW s s18 := RW_mk (RW_refl hI) (IM_r1 hI (by omega) (by omega)) (fun j hj => mu_rowP (by omega)) (mu_cellP (by omega))
    have k18 : ∀ k, k ≠ 203 + 4 * n → s18.1 89 k = s.1 89 k := fun k hk => mu_cellP (Or.inr hk)
    have w18 : s18.1 89 (203 + 4 * n) = a1 := mu_sameP
    clear_value s18
    refine ok_nn (ix_ok (r_add e (by decide : (ci 1).toInt = 1) (by omega) (by omega)) (by omega) (by omega)) ?_
    extract_lets +onlyGivenNames s20
    have h20 : RW s s20 := RW_fe h18 (r_add e (by decide : (ci 1).toInt = 1) (by omega) (by omega)) (by unfold fw kW kK; omega)
    have k20 : ∀ k : Nat, (203 + 4 * (n : Int) + 1) ≠ k → s20.1 89 k = s18.1 89 k := fun k hk => keepc (r_add e (by decide : (ci 1).toInt = 1) (by omega) (by omega)) hk (by omega)
    clear_value s20
    refine ok_nn (ix_ok (r_add e (by decide : (ci 2).toInt = 2) (by omega) (by omega)) (by omega) (by omega)) ?_
    extract_lets +onlyGivenNames s22
    have h22 : RW s s22 := RW_fe h20 (r_add e (by decide : (ci 2).toInt = 2) (by omega) (by omega)) (by unfold fw kW kK; omega)
    have k22 : ∀ k : Nat, (203 + 4 * (n : Int) + 2) ≠ k → s22.1 89 k = s20.1 89 k := fun k hk => keepc (r_add e (by decide : (ci 2).toInt = 2) (by omega) (by omega)) hk (by omega)
    clear_value s22
    refine ok_nn (ix_ok (r_add e (by decide : (ci 3).toInt = 3) (by omega) (by omega)) (by omega) (by omega)) ?_
    extract_lets +onlyGivenNames s24
    have h24 : RW s s24 := RW_fe h22 (r_add e (by decide : (ci 3).toInt = 3) (by omega) (by omega)) (by unfold fw kW kK; omega)
    have k24 : ∀ k : Nat, (203 + 4 * (n : Int) + 3) ≠ k → s24.1 89 k = s22.1 89 k := fun k hk => keepc (r_add e (by decide : (ci 3).toInt = 3) (by omega) (by omega)) hk (by omega)
    clear_value s24
    have q : s24.1 89 118 = s.1 89 118 := by rw [k24 _ (by omega), k22 _ (by omega), k20 _ (by omega), k18 _ (by omega)]
    extract_lets +onlyGivenNames s25
    have I25 : IM s25 := by
      refine IM_r2 h24.1 (by rw [q, t_up (by omega)]; omega) (fun k hk hl => ?_)
      rw [q, t_up (by omega), en] at hl
      rw [k24 _ (by omega), k22 _ (by omega), k20 _ (by omega)]
      by_cases w : k = n
      · subst w; rw [w18]; omega
      · rw [k18 _ (by omega)]; exact hI.1.2.2.2.2.2.2.2.2.1 k hk (by omega)
    have h25 : RW s s25 := RW_mk h24 I25 (fun j hj => mu_rowP (by omega)) (mu_cellP (by omega))
    have e1 : s25.1 89 118 = s24.1 89 118 + ci 1 := mu_sameP
    have kk : ∀ j, j ≠ 118 → s25.1 89 j = s24.1 89 j := fun j hj => mu_cellP (Or.inr hj)
    clear_value s25
    refine ok_some ⟨h25, ?_, ?_, fun j hj hn hr => ?_⟩
    · unfold ror; rw [if_neg c0, if_neg yes, ← q]; exact e1
    · unfold rol; rw [if_neg c0, if_neg yes, ← q]; exact e1
    · rw [kk j hn, k24 _ (by omega), k22 _ (by omega), k20 _ (by omega), k18 _ (by omega)]
