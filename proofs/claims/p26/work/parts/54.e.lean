noncomputable section
theorem T_X11_state {a1 : Int32} {s : mG} (hI : IC s) : ok (F_X11_state a1 s) (fun τ => RC true s τ.2) := by
  have hR : RC true s s := RC_refl hI
  unfold F_X11_state
  extract_lets +onlyGivenNames s_1
  have hs_2 : RC true s s_1 := (RC_mu hR (by decide))
  clear_value s_1
  refine ok_b1 (ok_tr hs_2 (T_X5_forget hs_2.1)) (fun s_3 (hs_4 : RC true s s_3) => ?_)
  exact ok_some hs_4
theorem T_X11_guest {a1 : Int32} {a2 : Int32} {s : mG} (hI : IC s) : ok (F_X11_guest a1 a2 s) (fun τ => RC true s τ.2) := by
  have hR : RC true s s := RC_refl hI
  unfold F_X11_guest
  refine ok_b1 (T_X11_isWithin hR.1) (fun v_1 (hv_2 : PB v_1) => ?_)
  refine ok_ite (fun h_3 => ?_) (fun h_4 => ?_)
  · unfold F_X11_guest_32
    exact ok_some hR
  · refine ok_b1 (T_X11_isWithin hR.1) (fun v_5 (hv_6 : PB v_5) => ?_)
    refine ok_ite (fun h_7 => ?_) (fun h_8 => ?_)
    · unfold F_X11_guest_32
      exact ok_some hR
    · refine ok_b1 (T_X10_isFull isT_2 hR.1) (fun v_9 (hv_10 : PB v_9 ∧ (v_9 = 0 → s.1 2 3 < s.1 2 0)) => ?_)
      refine ok_ite (fun h_11 => ?_) (fun h_12 => ?_)
      · refine ok_b1 (ok_tr hR (T_X5_forget hR.1)) (fun s_13 (hs_14 : RC true s s_13) => ?_)
        refine ok_b2 (ok_tr2 hs_14 (T_X2_addGuest isH_1 hs_14.1)) (fun v_15 s_16 (hs_17 : RC true s s_16) => ?_)
        exact ok_some hs_17
      · unfold F_X11_guest_32
        exact ok_some hR
theorem T_X11_canSet {s : mG} {a1 : Int32} {a2 : Int32} {a3 : Int32} (hI : IC s) : ok (F_X11_canSet s a1 a2 a3) PB := by
  have hR : RC true s s := RC_refl hI
  unfold F_X11_canSet
  refine ok_ite (fun h_1 => ?_) (fun h_2 => ?_)
  · refine ok_b1 (T_X11_isWithin hR.1) (fun v_3 (hv_4 : PB v_3) => ?_)
    refine ok_pp hv_4 ?_
    exact ok_some hv_4
  · refine ok_ite (fun h_5 => ?_) (fun h_6 => ?_)
    · refine ok_b1 (T_X11_isWithin hR.1) (fun v_7 (hv_8 : PB v_7) => ?_)
      refine ok_pp hv_8 ?_
      exact ok_some hv_8
    · refine ok_ite (fun h_9 => ?_) (fun h_10 => ?_)
      · refine ok_b1 (T_X2_isGuest isH_1 hR.1) (fun v_11 (hv_12 : PB v_11) => ?_)
        refine ok_ite (fun h_13 => ?_) (fun h_14 => ?_)
        · unfold F_X11_canSet_69
          exact ok_some pb0
        · refine ok_b1 (T_X11_isWithin hR.1) (fun v_15 (hv_16 : PB v_15) => ?_)
          refine ok_ite (fun h_17 => ?_) (fun h_18 => ?_)
          · unfold F_X11_canSet_69
            exact ok_some pb0
          · exact ok_some pb1
      · exact ok_some pb0
theorem T_X11_set {a1 : Int32} {a2 : Int32} {a3 : Int32} {s : mG} (hI : IC s) : ok (F_X11_set a1 a2 a3 s) (fun τ => PB τ.1 ∧ RC true s τ.2) := by
  have hR : RC true s s := RC_refl hI
  unfold F_X11_set
  refine ok_b1 (T_X11_canSet hR.1) (fun v_1 (hv_2 : PB v_1) => ?_)
  refine ok_ite (fun h_3 => ?_) (fun h_4 => ?_)
  · exact ok_some ⟨pb0, hR⟩
  · refine ok_ite (fun h_5 => ?_) (fun h_6 => ?_)
    · extract_lets +onlyGivenNames s_7
      have hs_8 : RC true s s_7 := (RC_mu hR (by decide))
      clear_value s_7
      unfold F_X11_set_56
      refine ok_b1 (ok_tr hs_8 (T_X5_forget hs_8.1)) (fun s_9 (hs_10 : RC true s s_9) => ?_)
      exact ok_some ⟨pb1, hs_10⟩
    · refine ok_ite (fun h_11 => ?_) (fun h_12 => ?_)
      · extract_lets +onlyGivenNames s_13
        have hs_14 : RC true s s_13 := (RC_mu hR (by decide))
        clear_value s_13
        unfold F_X11_set_56
        refine ok_b1 (ok_tr hs_14 (T_X5_forget hs_14.1)) (fun s_15 (hs_16 : RC true s s_15) => ?_)
        exact ok_some ⟨pb1, hs_16⟩
      · refine ok_b1 (ok_tr hR (T_X10_put isT_2 hR.1)) (fun s_17 (hs_18 : RC true s s_17) => ?_)
        unfold F_X11_set_56
        refine ok_b1 (ok_tr hs_18 (T_X5_forget hs_18.1)) (fun s_19 (hs_20 : RC true s s_19) => ?_)
        exact ok_some ⟨pb1, hs_20⟩
theorem T_X11_hang {a1 : Int32} {a2 : Int32} {s : mG} (hI : IC s) : ok (F_X11_hang a1 a2 s) (fun τ => PB τ.1 ∧ RC true s τ.2) := by
  have hR : RC true s s := RC_refl hI
  unfold F_X11_hang
  refine ok_b1 (T_X2_isGuest isH_1 hR.1) (fun v_1 (hv_2 : PB v_1) => ?_)
  refine ok_ite (fun h_3 => ?_) (fun h_4 => ?_)
  · unfold F_X11_hang_44
    exact ok_some ⟨pb0, hR⟩
  · refine ok_b1 (T_X2_isGuest isH_1 hR.1) (fun v_5 (hv_6 : PB v_5) => ?_)
    refine ok_ite (fun h_7 => ?_) (fun h_8 => ?_)
    · unfold F_X11_hang_44
      exact ok_some ⟨pb0, hR⟩
    · refine ok_b1 (T_X2_isOut isH_1 hR.1) (fun v_9 (hv_10 : PB v_9) => ?_)
      refine ok_ite (fun h_11 => ?_) (fun h_12 => ?_)
      · unfold F_X11_hang_44
        exact ok_some ⟨pb0, hR⟩
      · refine ok_b1 (T_X2_hasKey isH_1 hR.1) (fun v_13 (hv_14 : PB v_13) => ?_)
        refine ok_ite (fun h_15 => ?_) (fun h_16 => ?_)
        · refine ok_b1 (ok_tr hR (T_X5_keep isH_1 hR.1)) (fun s_17 (hs_18 : RC true s s_17) => ?_)
          refine ok_b1 (ok_tr hs_18 (T_X10_put isT_2 hs_18.1)) (fun s_19 (hs_20 : RC true s s_19) => ?_)
          refine ok_b1 (ok_tr hs_20 (T_X2_write isH_1 hs_20.1)) (fun s_21 (hs_22 : RC true s s_21) => ?_)
          exact ok_some ⟨pb1, hs_22⟩
        · unfold F_X11_hang_44
          exact ok_some ⟨pb0, hR⟩
theorem T_X11_looks {a1 : Int32} {a2 : Int32} {a3 : Int32} {s : mG} (hI : IC s) : ok (F_X11_looks a1 a2 a3 s) (fun τ => PB τ.1 ∧ RC true s τ.2) := by
  have hR : RC true s s := RC_refl hI
  unfold F_X11_looks
  refine ok_b1 (T_X2_isGuest isH_1 hR.1) (fun v_1 (hv_2 : PB v_1) => ?_)
  refine ok_ite (fun h_3 => ?_) (fun h_4 => ?_)
  · unfold F_X11_looks_31
    exact ok_some ⟨pb0, hR⟩
  · refine ok_b1 (T_X2_isSign isH_1 hR.1) (fun v_5 (hv_6 : PB v_5) => ?_)
    refine ok_ite (fun h_7 => ?_) (fun h_8 => ?_)
    · unfold F_X11_looks_31
      exact ok_some ⟨pb0, hR⟩
    · refine ok_b1 (T_X11_isWithin hR.1) (fun v_9 (hv_10 : PB v_9) => ?_)
      refine ok_ite (fun h_11 => ?_) (fun h_12 => ?_)
      · unfold F_X11_looks_31
        exact ok_some ⟨pb0, hR⟩
      · refine ok_b1 (T_X10_at isT_2 hR.1) (fun v_13 _ => ?_)
        refine ok_ite (fun h_15 => ?_) (fun h_16 => ?_)
        · exact ok_some ⟨pb0, hR⟩
        · refine ok_b1 (ok_tr hR (T_X5_keep isH_1 hR.1)) (fun s_17 (hs_18 : RC true s s_17) => ?_)
          refine ok_b1 (ok_tr hs_18 (T_X10_put isT_2 hs_18.1)) (fun s_19 (hs_20 : RC true s s_19) => ?_)
          exact ok_some ⟨pb1, hs_20⟩
theorem T_X11_hours {a1 : Int32} {s : mG} (hI : IC s) : ok (F_X11_hours a1 s) (fun τ => RC true s τ.2) := by
  have hR : RC true s s := RC_refl hI
  unfold F_X11_hours
  refine ok_b1 (T_X11_isWithin hR.1) (fun v_1 (hv_2 : PB v_1) => ?_)
  refine ok_ite (fun h_3 => ?_) (fun h_4 => ?_)
  · unfold F_X11_hours_25
    exact ok_some hR
  · refine ok_ite (fun h_5 => ?_) (fun h_6 => ?_)
    · unfold F_X11_hours_L31
      refine ok_whl (fun v => a1 = v.1 ∧ RC true s v.2.2.2 ∧ ¬ v.2.2.1 < 0) (fun v => mUp v.2.2.1) ⟨rfl, hR, nn0⟩ (fun v hv => ?_)
      obtain ⟨x_10, x_11, x_12, s_13⟩ := v
      obtain ⟨rfl, rhs_14, rhn_15⟩ := hv
      have hs_14 : RC true s s_13 := rhs_14
      have hn_15 : ¬ x_12 < 0 := rhn_15
      show ok (F_X11_hours_B31 a1 x_11 x_12 s_13) _
      unfold F_X11_hours_B31
      refine ok_ite (fun h_16 => ?_) (fun h_17 => ?_)
      · exact ok_some (lp_inr (hs_14))
      · refine ok_b1 (ok_tr hs_14 (T_X5_keep isH_1 hs_14.1)) (fun s_18 (hs_19 : RC true s s_18) => ?_)
        refine ok_b2 (ok_tr2 hs_19 (T_X6_passHour hs_19.1)) (fun v_20 s_21 (hs_22 : RC true s s_21) => ?_)
        exact ok_some (lp_inl ⟨rfl, hs_22, (up_nn hn_15 (ge_t h_17))⟩ (up_t (ge_t h_17)))
    · unfold F_X11_hours_25
      exact ok_some hR
/-! X11_feed: by hand -/
def fdr (l : Int32) : Int32 := if l + c8 20 ≤ c16 400 then l + c8 20 else ci (-1)
def fdl (l : Int32) : Int32 := if l + c8 20 ≤ c16 400 then l + c8 20 else l
theorem T_X11_feed {a1 a2 a3 a4 a5 : Int32} {s : mG} (hI : IC s) : ok (F_X11_feed a1 a2 a3 a4 a5 s) (fun τ => RC false s τ.2 ∧ τ.1 = fdr (s.1 55 9) ∧ τ.2.1 55 9 = fdl (s.1 55 9)) := by
  unfold F_X11_feed
  have hh : F_X7_hasSpaceFor s (c8 20) = some (if s.1 55 9 + c8 20 ≤ c16 400 then ci 1 else ci 0) := by
    unfold F_X7_hasSpaceFor
    by_cases h : s.1 55 9 + c8 20 ≤ c16 400
    · rw [if_pos h, if_neg (Int32.not_lt.mpr h)]
    · rw [if_neg h, if_pos (Int32.not_le.mp h)]
  rw [hh, b1_some]
  unfold fdr fdl
  by_cases h : s.1 55 9 + c8 20 ≤ c16 400
  · rw [if_pos h, if_pos h, if_pos h, if_neg (by decide)]
    refine ok_b1 (T_X7_takeFour hI) (fun s5 (h5 : RC false s s5 ∧ s5.1 55 9 = s.1 55 9 + ci 4) => ?_)
    refine ok_b1 (T_X7_takeFour h5.1.1) (fun s7 (h7 : RC false s5 s7 ∧ s7.1 55 9 = s5.1 55 9 + ci 4) => ?_)
    refine ok_b1 (T_X7_takeFour h7.1.1) (fun s9 (h9 : RC false s7 s9 ∧ s9.1 55 9 = s7.1 55 9 + ci 4) => ?_)
    refine ok_b1 (T_X7_takeFour h9.1.1) (fun s11 (h11 : RC false s9 s11 ∧ s11.1 55 9 = s9.1 55 9 + ci 4) => ?_)
    refine ok_b1 (T_X7_takeFour h11.1.1) (fun s13 (h13 : RC false s11 s13 ∧ s13.1 55 9 = s11.1 55 9 + ci 4) => ?_)
    have e : s13.1 55 9 = s.1 55 9 + c8 20 := by
      rw [h13.2, h11.2, h9.2, h7.2, h5.2, Int32.add_assoc, Int32.add_assoc, Int32.add_assoc, Int32.add_assoc]
      rfl
    exact ok_some ⟨RC_trf (RC_trf (RC_trf (RC_trf h5.1 h7.1) h9.1) h11.1) h13.1, e, e⟩
  · rw [if_neg h, if_neg h, if_neg h, if_pos (by decide)]
    exact ok_some ⟨RC_refl hI, rfl, rfl⟩
/-! X11_end: by hand -/
def enl (a l : Int32) : Int32 := if wi a (ci 0) l = 0 then l else a
def enr (a l : Int32) : Int32 := if wi a (ci 0) l = 0 then ci 0 else ci 1
theorem T_X11_end {a1 : Int32} {s : mG} (hI : IC s) : ok (F_X11_end a1 s) (fun τ => RC false s τ.2 ∧ τ.1 = enr a1 (s.1 55 9) ∧ τ.2.1 55 9 = enl a1 (s.1 55 9)) := by
  unfold F_X11_end
  rw [F_isWithin, b1_some]
  unfold enl enr
  by_cases h : wi a1 (ci 0) (s.1 55 9) = 0
  · rw [if_pos h, if_pos h, if_pos h]
    exact ok_some ⟨RC_refl hI, rfl, rfl⟩
  · rw [if_neg h, if_neg h, if_neg h]
    exact ok_some ⟨RC_cell (RC_refl hI) (by decide) (by decide) (fun q => absurd q (by decide)), rfl, mu_sameP⟩
/-! X11_text: by hand -/
theorem T_X11_text {a1 : Int32} {s : mG} (hI : IC s) : ok (F_X11_text a1 s) (fun τ => RC false s τ.2 ∧ τ.2.1 55 9 = ci 0) := by
  unfold F_X11_text
  refine ok_b2 (ok_tr3 (RC_refl hI) (T_X7_readText hI)) (fun v3 s2 (hs2 : PB v3 ∧ RC true s s2) => ?_)
  extract_lets +onlyGivenNames s4
  have h4 : RC false s s4 := RC_cell (RC_weak hs2.2) (by decide) (by decide) (fun q => absurd q (by decide))
  have e4 : s4.1 55 9 = ci 0 := mu_sameP
  clear_value s4
  refine ok_mono (P := fun τ => RC true s4 τ.2) ?_ (fun τ hτ => ⟨RC_tr h4 hτ, (hτ.2.2.2 rfl).trans e4⟩)
  have hR : RC true s4 s4 := RC_refl h4.1
  refine ok_ite (fun _ => ok_some hR) (fun _ => ?_)
  refine ok_ite (fun _ => ?_) (fun _ => ?_)
  · refine ok_b1 (ok_tr hR (T_X10_copyFrom isT_6 isT_56 hR.1)) (fun s8 (h8 : RC true s4 s8) => ?_)
    refine ok_b1 (ok_tr h8 (T_X10_copyFrom isT_8 isT_58 h8.1)) (fun s10 (h10 : RC true s4 s10) => ?_)
    exact ok_some h10
  · refine ok_b1 (ok_tr hR (T_X5_forget hR.1)) (fun s12 (h12 : RC true s4 s12) => ?_)
    refine ok_ite (fun _ => ?_) (fun _ => ?_)
    · refine ok_b1 (ok_tr h12 (T_X10_copyFrom isT_10 isT_60 h12.1)) (fun s15 (h15 : RC true s4 s15) => ?_)
      refine ok_b1 (ok_tr h15 (T_X2_forgetSeen isH_1 h15.1)) (fun s17 (h17 : RC true s4 s17) => ?_)
      exact ok_some h17
    · refine ok_b1 (ok_tr h12 (T_X10_copyFrom isT_12 isT_62 h12.1)) (fun s19 (h19 : RC true s4 s19) => ?_)
      exact ok_some h19
theorem T_X11_fault {s : mG} {a1 : Int32} (hI : IC s) : ok (F_X11_fault s a1) PT := by
  have hR : RC true s s := RC_refl hI
  unfold F_X11_fault
  refine ok_ite (fun h_1 => ?_) (fun h_2 => ?_)
  · exact ok_some trivial
  · refine ok_ite (fun h_3 => ?_) (fun h_4 => ?_)
    · exact ok_some trivial
    · exact ok_some trivial
theorem T_X11_caller {a1 : Int32} {a2 : Int32} {a3 : Int32} {s : mG} (hI : IC s) : ok (F_X11_caller a1 a2 a3 s) (fun τ => RC true s τ.2) := by
  have hR : RC true s s := RC_refl hI
  unfold F_X11_caller
  refine ok_ite (fun h_1 => ?_) (fun h_2 => ?_)
  · refine ok_b1 (ok_tr hR (T_X10_clear isT_16 hR.1)) (fun s_3 (hs_4 : RC true s s_3) => ?_)
    exact ok_some hs_4
  · refine ok_b1 (T_X2_isGuest isH_1 hR.1) (fun v_5 (hv_6 : PB v_5) => ?_)
    refine ok_ite (fun h_7 => ?_) (fun h_8 => ?_)
    · unfold F_X11_caller_63
      exact ok_some hR
    · refine ok_b1 (T_X11_isWithin hR.1) (fun v_9 (hv_10 : PB v_9) => ?_)
      refine ok_ite (fun h_11 => ?_) (fun h_12 => ?_)
      · unfold F_X11_caller_63
        exact ok_some hR
      · refine ok_b1 (T_X11_isWithin hR.1) (fun v_13 (hv_14 : PB v_13) => ?_)
        refine ok_ite (fun h_15 => ?_) (fun h_16 => ?_)
        · unfold F_X11_caller_63
          exact ok_some hR
        · refine ok_b1 (T_X10_isFull isT_16 hR.1) (fun v_17 (hv_18 : PB v_17 ∧ (v_17 = 0 → s.1 16 3 < s.1 16 0)) => ?_)
          refine ok_ite (fun h_19 => ?_) (fun h_20 => ?_)
          · refine ok_b2 (ok_tr2 hR (T_X10_add isT_16 hR.1)) (fun v_21 s_22 (hs_23 : RC true s s_22) => ?_)
            refine ok_b1 (ok_tr hs_23 (T_X10_put isT_16 hs_23.1)) (fun s_24 (hs_25 : RC true s s_24) => ?_)
            refine ok_b1 (ok_tr hs_25 (T_X10_put isT_16 hs_25.1)) (fun s_26 (hs_27 : RC true s s_26) => ?_)
            refine ok_b1 (ok_tr hs_27 (T_X10_put isT_16 hs_27.1)) (fun s_28 (hs_29 : RC true s s_28) => ?_)
            exact ok_some hs_29
          · unfold F_X11_caller_63
            exact ok_some hR
theorem T_X11_room {a1 : Int32} {a2 : Int32} {a3 : Int32} {a4 : Int32} {s : mG} (hI : IC s) : ok (F_X11_room a1 a2 a3 a4 s) (fun τ => RC true s τ.2) := by
  have hR : RC true s s := RC_refl hI
  unfold F_X11_room
  refine ok_ite (fun h_1 => ?_) (fun h_2 => ?_)
  · refine ok_b1 (ok_tr hR (T_X10_clear isT_14 hR.1)) (fun s_3 (hs_4 : RC true s s_3) => ?_)
    exact ok_some hs_4
  · refine ok_b1 (T_X2_isGuest isH_1 hR.1) (fun v_5 (hv_6 : PB v_5) => ?_)
    refine ok_ite (fun h_7 => ?_) (fun h_8 => ?_)
    · unfold F_X11_room_73
      exact ok_some hR
    · refine ok_b1 (T_X11_isWithin hR.1) (fun v_9 (hv_10 : PB v_9) => ?_)
      refine ok_ite (fun h_11 => ?_) (fun h_12 => ?_)
      · unfold F_X11_room_73
        exact ok_some hR
      · refine ok_b1 (T_X11_isWithin hR.1) (fun v_13 (hv_14 : PB v_13) => ?_)
        refine ok_ite (fun h_15 => ?_) (fun h_16 => ?_)
        · unfold F_X11_room_73
          exact ok_some hR
        · refine ok_b1 (T_X11_isWithin hR.1) (fun v_17 (hv_18 : PB v_17) => ?_)
          refine ok_ite (fun h_19 => ?_) (fun h_20 => ?_)
          · unfold F_X11_room_73
            exact ok_some hR
          · refine ok_b1 (T_X10_isFull isT_14 hR.1) (fun v_21 (hv_22 : PB v_21 ∧ (v_21 = 0 → s.1 14 3 < s.1 14 0)) => ?_)
            refine ok_ite (fun h_23 => ?_) (fun h_24 => ?_)
            · refine ok_b2 (ok_tr2 hR (T_X10_add isT_14 hR.1)) (fun v_25 s_26 (hs_27 : RC true s s_26) => ?_)
              refine ok_b1 (ok_tr hs_27 (T_X10_put isT_14 hs_27.1)) (fun s_28 (hs_29 : RC true s s_28) => ?_)
              refine ok_b1 (ok_tr hs_29 (T_X10_put isT_14 hs_29.1)) (fun s_30 (hs_31 : RC true s s_30) => ?_)
              refine ok_b1 (ok_tr hs_31 (T_X10_put isT_14 hs_31.1)) (fun s_32 (hs_33 : RC true s s_32) => ?_)
              refine ok_b1 (ok_tr hs_33 (T_X10_put isT_14 hs_33.1)) (fun s_34 (hs_35 : RC true s s_34) => ?_)
              exact ok_some hs_35
            · unfold F_X11_room_73
              exact ok_some hR
theorem T_X11_undo {s : mG} (hI : IC s) : ok (F_X11_undo s) (fun τ => PB τ.1 ∧ RC true s τ.2) := by
  have hR : RC true s s := RC_refl hI
  unfold F_X11_undo
  refine ok_b2 (ok_tr3 hR (T_X5_giveBack isH_1 hR.1)) (fun v_1 s_2 (hs_3 : PB v_1 ∧ RC true s s_2) => ?_)
  refine ok_pp hs_3.1 ?_
  exact ok_some ⟨hs_3.1, hs_3.2⟩
theorem T_X11_image {a1 : Int32} {s : mG} (hI : IC s) : ok (F_X11_image a1 s) (fun τ => PB τ.1 ∧ RC true s τ.2) := by
  have hR : RC true s s := RC_refl hI
  unfold F_X11_image
  refine ok_ite (fun h_1 => ?_) (fun h_2 => ?_)
  · refine ok_ite (fun h_3 => ?_) (fun h_4 => ?_)
    · exact ok_some ⟨pb0, hR⟩
    · refine ok_b1 (ok_tr hR (T_X2_copyFrom isH_1 isH_18 hR.1)) (fun s_5 (hs_6 : RC true s s_5) => ?_)
      refine ok_b1 (ok_tr hs_6 (T_X5_forget hs_6.1)) (fun s_7 (hs_8 : RC true s s_7) => ?_)
      exact ok_some ⟨pb1, hs_8⟩
  · refine ok_b1 (ok_tr hR (T_X2_copyFrom isH_18 isH_1 hR.1)) (fun s_9 (hs_10 : RC true s s_9) => ?_)
    extract_lets +onlyGivenNames s_11
    have hs_12 : RC true s s_11 := (RC_mu hs_10 (by decide))
    clear_value s_11
    exact ok_some ⟨pb1, hs_12⟩
theorem T_X11_of {a1 : Int32} {a2 : Int32} {s : mG} (hI : IC s) : ok (F_X11_of a1 a2 s) (fun τ => RC true s τ.2) := by
  have hR : RC true s s := RC_refl hI
  unfold F_X11_of
  refine ok_b1 (T_X2_isGuest isH_1 hR.1) (fun v_1 (hv_2 : PB v_1) => ?_)
  refine ok_ite (fun h_3 => ?_) (fun h_4 => ?_)
  · exact ok_some hR
  · refine ok_b1 (T_X11_isWithin hR.1) (fun v_5 (hv_6 : PB v_5) => ?_)
    refine ok_ite (fun h_7 => ?_) (fun h_8 => ?_)
    · refine ok_ite (fun h_9 => ?_) (fun h_10 => ?_)
      · refine ok_b2 (ok_tr2 hR (T_X0_sureOf hR.1)) (fun v_11 s_12 (hs_13 : RC true s s_12) => ?_)
        exact ok_some hs_13
      · refine ok_b1 (T_X11_isWithin hR.1) (fun v_14 (hv_15 : PB v_14) => ?_)
        refine ok_ite (fun h_16 => ?_) (fun h_17 => ?_)
        · exact ok_some hR
        · refine ok_b1 (ok_tr hR (T_X3_face hR.1)) (fun s_18 (hs_19 : RC true s s_18) => ?_)
          refine ok_b2 (ok_tr2 hs_19 (T_X3_tells hs_19.1)) (fun v_20 s_21 (hs_22 : RC true s s_21) => ?_)
          exact ok_some hs_22
    · refine ok_b1 (T_X10_at isT_2 hR.1) (fun v_23 _ => ?_)
      exact ok_some hR
theorem T_X11_hook {s : mG} {a1 : Int32} (hI : IC s) : ok (F_X11_hook s a1) PT := by
  have hR : RC true s s := RC_refl hI
  unfold F_X11_hook
  refine ok_b1 (T_X2_isGuest isH_1 hR.1) (fun v_1 (hv_2 : PB v_1) => ?_)
  refine ok_ite (fun h_3 => ?_) (fun h_4 => ?_)
  · exact ok_some trivial
  · refine ok_b1 (T_X2_keyOn isH_1 hR.1) (fun v_5 _ => ?_)
    exact ok_some trivial
theorem T_X11_sign {s : mG} {a1 : Int32} {a2 : Int32} (hI : IC s) : ok (F_X11_sign s a1 a2) PT := by
  have hR : RC true s s := RC_refl hI
  unfold F_X11_sign
  refine ok_b1 (T_X2_isSign isH_1 hR.1) (fun v_1 (hv_2 : PB v_1) => ?_)
  refine ok_ite (fun h_3 => ?_) (fun h_4 => ?_)
  · exact ok_some trivial
  · refine ok_b1 (T_X11_isWithin hR.1) (fun v_5 (hv_6 : PB v_5) => ?_)
    refine ok_ite (fun h_7 => ?_) (fun h_8 => ?_)
    · refine ok_ite (fun h_9 => ?_) (fun h_10 => ?_)
      · unfold F_X11_sign_73
        exact ok_some trivial
      · refine ok_b1 (T_X2_isGuest isH_1 hR.1) (fun v_11 (hv_12 : PB v_11) => ?_)
        refine ok_ite (fun h_13 => ?_) (fun h_14 => ?_)
        · unfold F_X11_sign_73
          exact ok_some trivial
        · refine ok_b1 (T_X10_at isT_2 hR.1) (fun v_15 _ => ?_)
          exact ok_some trivial
    · refine ok_b1 (T_X10_at isT_10 hR.1) (fun v_17 _ => ?_)
      exact ok_some trivial
theorem T_X11_book {s : mG} {a1 : Int32} {a2 : Int32} (hI : IC s) : ok (F_X11_book s a1 a2) PT := by
  have hR : RC true s s := RC_refl hI
  unfold F_X11_book
  refine ok_b1 (T_X10_hasRow isT_4 hR.1) (fun v_1 (hv_2 : PB v_1) => ?_)
  refine ok_ite (fun h_3 => ?_) (fun h_4 => ?_)
  · unfold F_X11_book_23
    exact ok_some trivial
  · refine ok_b1 (T_X11_isWithin hR.1) (fun v_5 (hv_6 : PB v_5) => ?_)
    refine ok_ite (fun h_7 => ?_) (fun h_8 => ?_)
    · unfold F_X11_book_23
      exact ok_some trivial
    · refine ok_b1 (T_X10_at isT_4 hR.1) (fun v_9 _ => ?_)
      exact ok_some trivial
theorem T_X11_saw {s : mG} {a1 : Int32} {a2 : Int32} (hI : IC s) : ok (F_X11_saw s a1 a2) PT := by
  have hR : RC true s s := RC_refl hI
  unfold F_X11_saw
  refine ok_b1 (T_X2_isGuest isH_1 hR.1) (fun v_1 (hv_2 : PB v_1) => ?_)
  refine ok_ite (fun h_3 => ?_) (fun h_4 => ?_)
  · unfold F_X11_saw_20
    exact ok_some trivial
  · refine ok_b1 (T_X11_isWithin hR.1) (fun v_5 (hv_6 : PB v_5) => ?_)
    refine ok_ite (fun h_7 => ?_) (fun h_8 => ?_)
    · unfold F_X11_saw_20
      exact ok_some trivial
    · refine ok_ite (fun h_9 => ?_) (fun h_10 => ?_)
      · unfold F_X11_saw_36
        refine ok_b1 (T_X8_linesOf hR.1) (fun v_11 _ => ?_)
        exact ok_some trivial
      · unfold F_X11_saw_36
        refine ok_b1 (T_X8_linesOf hR.1) (fun v_13 _ => ?_)
        exact ok_some trivial
theorem T_X11_by {s : mG} {a1 : Int32} {a2 : Int32} (hI : IC s) : ok (F_X11_by s a1 a2) PT := by
  have hR : RC true s s := RC_refl hI
  unfold F_X11_by
  refine ok_b1 (T_X11_isWithin hR.1) (fun v_1 (hv_2 : PB v_1) => ?_)
  refine ok_ite (fun h_3 => ?_) (fun h_4 => ?_)
  · unfold F_X11_by_18
    exact ok_some trivial
  · refine ok_b1 (T_X11_isWithin hR.1) (fun v_5 (hv_6 : PB v_5) => ?_)
    refine ok_ite (fun h_7 => ?_) (fun h_8 => ?_)
    · unfold F_X11_by_18
      exact ok_some trivial
    · refine ok_b1 (T_X8_linesAt hR.1) (fun v_9 _ => ?_)
      exact ok_some trivial
theorem T_X11_tellsOn {s : mG} {a1 : Int32} (hI : IC s) : ok (F_X11_tellsOn s a1) PT := by
  have hR : RC true s s := RC_refl hI
  unfold F_X11_tellsOn
  refine ok_b1 (T_X11_isWithin hR.1) (fun v_1 (hv_2 : PB v_1) => ?_)
  refine ok_ite (fun h_3 => ?_) (fun h_4 => ?_)
  · exact ok_some trivial
  · refine ok_b1 (T_X8_outSeenBy hR.1) (fun v_5 _ => ?_)
    exact ok_some trivial
theorem T_X11_ring {s : mG} {a1 : Int32} (hI : IC s) : ok (F_X11_ring s a1) PT := by
  have hR : RC true s s := RC_refl hI
  unfold F_X11_ring
  refine ok_b1 (T_X2_isGuest isH_1 hR.1) (fun v_1 (hv_2 : PB v_1) => ?_)
  refine ok_ite (fun h_3 => ?_) (fun h_4 => ?_)
  · exact ok_some trivial
  · refine ok_b1 (T_X8_ringOf hR.1) (fun v_5 _ => ?_)
    refine ok_b1 (T_J6_bitCount_0f7a4 hR.1) (fun v_7 _ => ?_)
    exact ok_some trivial
theorem T_X11_swapped {s : mG} {a1 : Int32} (hI : IC s) : ok (F_X11_swapped s a1) PT := by
  have hR : RC true s s := RC_refl hI
  unfold F_X11_swapped
  refine ok_ite (fun h_1 => ?_) (fun h_2 => ?_)
  · refine ok_b1 (T_X8_wrongHooks hR.1) (fun v_3 _ => ?_)
    exact ok_some trivial
  · refine ok_ite (fun h_5 => ?_) (fun h_6 => ?_)
    · refine ok_b1 (T_X8_wrongHooks hR.1) (fun v_7 _ => ?_)
      refine ok_b1 (T_J6_bitCount_0f7a4 hR.1) (fun v_9 _ => ?_)
      refine ok_b1 (T_X8_ringCount hR.1) (fun v_11 _ => ?_)
      exact ok_some trivial
    · refine ok_ite (fun h_13 => ?_) (fun h_14 => ?_)
      · refine ok_b1 (T_X8_ringCount hR.1) (fun v_15 _ => ?_)
        exact ok_some trivial
      · exact ok_some trivial
theorem T_X11_thief {s : mG} (hI : IC s) : ok (F_X11_thief s) PT := by
  have hR : RC true s s := RC_refl hI
  unfold F_X11_thief
  refine ok_b1 (T_X8_longestOutWithKey hR.1) (fun v_1 _ => ?_)
  exact ok_some trivial
theorem T_X11_lookAtTold {s : mG} {a1 : Int32} (hI : IC s) : ok (F_X11_lookAtTold s a1) PT := by
  have hR : RC true s s := RC_refl hI
  unfold F_X11_lookAtTold
  refine ok_ite (fun h_1 => ?_) (fun h_2 => ?_)
  · exact ok_some trivial
  · refine ok_ite (fun h_3 => ?_) (fun h_4 => ?_)
    · exact ok_some trivial
    · refine ok_ite (fun h_5 => ?_) (fun h_6 => ?_)
      · exact ok_some trivial
      · refine ok_ite (fun h_7 => ?_) (fun h_8 => ?_)
        · exact ok_some trivial
        · refine ok_ite (fun h_9 => ?_) (fun h_10 => ?_)
          · exact ok_some trivial
          · refine ok_ite (fun h_11 => ?_) (fun h_12 => ?_)
            · exact ok_some trivial
            · exact ok_some trivial
theorem T_X11_look {s : mG} {a1 : Int32} (hI : IC s) : ok (F_X11_look s a1) PT := by
  have hR : RC true s s := RC_refl hI
  unfold F_X11_look
  refine ok_ite (fun h_1 => ?_) (fun h_2 => ?_)
  · exact ok_some trivial
  · refine ok_ite (fun h_3 => ?_) (fun h_4 => ?_)
    · exact ok_some trivial
    · refine ok_ite (fun h_5 => ?_) (fun h_6 => ?_)
      · refine ok_b1 (T_X2_outSet isH_1 hR.1) (fun v_7 _ => ?_)
        exact ok_some trivial
      · refine ok_ite (fun h_9 => ?_) (fun h_10 => ?_)
        · refine ok_b1 (T_X2_hookSet isH_1 hR.1) (fun v_11 _ => ?_)
          exact ok_some trivial
        · refine ok_ite (fun h_13 => ?_) (fun h_14 => ?_)
          · exact ok_some trivial
          · refine ok_ite (fun h_15 => ?_) (fun h_16 => ?_)
            · exact ok_some trivial
            · refine ok_ite (fun h_17 => ?_) (fun h_18 => ?_)
              · exact ok_some trivial
              · refine ok_ite (fun h_19 => ?_) (fun h_20 => ?_)
                · exact ok_some trivial
                · refine ok_b1 (T_X11_lookAtTold hR.1) (fun v_21 _ => ?_)
                  exact ok_some trivial
theorem T_X11_next {a1 : Int32} {s : mG} (hI : IC s) : ok (F_X11_next a1 s) (fun τ => RC true s τ.2) := by
  have hR : RC true s s := RC_refl hI
  unfold F_X11_next
  refine ok_b1 (T_X2_isGuest isH_1 hR.1) (fun v_1 (hv_2 : PB v_1) => ?_)
  refine ok_ite (fun h_3 => ?_) (fun h_4 => ?_)
  · exact ok_some hR
  · refine ok_b2 (ok_tr2 hR (T_X0_signAt hR.1)) (fun v_5 s_6 (hs_7 : RC true s s_6) => ?_)
    exact ok_some hs_7
theorem T_X11_looksAt {a1 : Int32} {a2 : Int32} {s : mG} (hI : IC s) : ok (F_X11_looksAt a1 a2 s) (fun τ => RC true s τ.2) := by
  have hR : RC true s s := RC_refl hI
  unfold F_X11_looksAt
  refine ok_b1 (T_X2_isGuest isH_1 hR.1) (fun v_1 (hv_2 : PB v_1) => ?_)
  refine ok_ite (fun h_3 => ?_) (fun h_4 => ?_)
  · unfold F_X11_looksAt_27
    exact ok_some hR
  · refine ok_ite (fun h_5 => ?_) (fun h_6 => ?_)
    · unfold F_X11_looksAt_27
      exact ok_some hR
    · refine ok_b2 (ok_tr2 hR (T_X0_signAt hR.1)) (fun v_7 s_8 (hs_9 : RC true s s_8) => ?_)
      exact ok_some hs_9
theorem T_X11_say {a1 : Int32} {a2 : Int32} {a3 : Int32} {s : mG} (hI : IC s) : ok (F_X11_say a1 a2 a3 s) (fun τ => RC true s τ.2) := by
  have hR : RC true s s := RC_refl hI
  unfold F_X11_say
  refine ok_b1 (T_X2_isGuest isH_1 hR.1) (fun v_1 (hv_2 : PB v_1) => ?_)
  refine ok_ite (fun h_3 => ?_) (fun h_4 => ?_)
  · unfold F_X11_say_33
    exact ok_some hR
  · refine ok_b1 (T_X11_isWithin hR.1) (fun v_5 (hv_6 : PB v_5) => ?_)
    refine ok_ite (fun h_7 => ?_) (fun h_8 => ?_)
    · unfold F_X11_say_33
      exact ok_some hR
    · refine ok_b1 (T_X11_isWithin hR.1) (fun v_9 (hv_10 : PB v_9) => ?_)
      refine ok_ite (fun h_11 => ?_) (fun h_12 => ?_)
      · unfold F_X11_say_33
        exact ok_some hR
      · refine ok_b2 (ok_tr3 hR (T_X0_saysIn hR.1)) (fun v_13 s_14 (hs_15 : PB v_13 ∧ RC true s s_14) => ?_)
        refine ok_ite (fun h_16 => ?_) (fun h_17 => ?_)
        · exact ok_some hs_15.2
        · exact ok_some hs_15.2
theorem T_X11_said {a1 : Int32} {s : mG} (hI : IC s) : ok (F_X11_said a1 s) (fun τ => RC true s τ.2) := by
  have hR : RC true s s := RC_refl hI
  unfold F_X11_said
  refine ok_b1 (T_X11_isWithin hR.1) (fun v_1 (hv_2 : PB v_1) => ?_)
  refine ok_ite (fun h_3 => ?_) (fun h_4 => ?_)
  · exact ok_some hR
  · refine ok_ite (fun h_5 => ?_) (fun h_6 => ?_)
    · unfold F_X11_said_23
      refine ok_b2 (ok_tr2 hR (T_X0_saidToAll hR.1)) (fun v_7 s_8 (hs_9 : RC true s s_8) => ?_)
      exact ok_some hs_9
    · unfold F_X11_said_23
      refine ok_b2 (ok_tr2 hR (T_X0_saidToAll hR.1)) (fun v_10 s_11 (hs_12 : RC true s s_11) => ?_)
      exact ok_some hs_12
theorem T_X11_many {a1 : Int32} {s : mG} (hI : IC s) : ok (F_X11_many a1 s) (fun τ => RC true s τ.2) := by
  have hR : RC true s s := RC_refl hI
  unfold F_X11_many
  refine ok_ite (fun h_1 => ?_) (fun h_2 => ?_)
  · refine ok_b2 (ok_tr2 hR (T_X0_sumOfSure hR.1)) (fun v_3 s_4 (hs_5 : RC true s s_4) => ?_)
    exact ok_some hs_5
  · refine ok_ite (fun h_6 => ?_) (fun h_7 => ?_)
    · refine ok_b2 (ok_tr2 hR (T_X0_likeliest hR.1)) (fun v_8 s_9 (hs_10 : RC true s s_9) => ?_)
      exact ok_some hs_10
    · refine ok_ite (fun h_11 => ?_) (fun h_12 => ?_)
      · refine ok_b2 (ok_tr2 hR (T_X0_likeliest hR.1)) (fun v_13 s_14 (hs_15 : RC true s s_14) => ?_)
        exact ok_some hs_15
      · exact ok_some hR
theorem T_X11_span {a1 : Int32} {a2 : Int32} {s : mG} (hI : IC s) : ok (F_X11_span a1 a2 s) (fun τ => RC true s τ.2) := by
  have hR : RC true s s := RC_refl hI
  unfold F_X11_span
  refine ok_b1 (T_X11_isWithin hR.1) (fun v_1 (hv_2 : PB v_1) => ?_)
  refine ok_ite (fun h_3 => ?_) (fun h_4 => ?_)
  · unfold F_X11_span_20
    exact ok_some hR
  · refine ok_b1 (T_X11_isWithin hR.1) (fun v_5 (hv_6 : PB v_5) => ?_)
    refine ok_ite (fun h_7 => ?_) (fun h_8 => ?_)
    · unfold F_X11_span_20
      exact ok_some hR
    · refine ok_ite (fun h_9 => ?_) (fun h_10 => ?_)
      · unfold F_X11_span_37
        refine ok_b2 (ok_tr2 hR (T_X0_spanEdge hR.1)) (fun v_11 s_12 (hs_13 : RC true s s_12) => ?_)
        exact ok_some hs_13
      · unfold F_X11_span_37
        refine ok_b2 (ok_tr2 hR (T_X0_spanEdge hR.1)) (fun v_14 s_15 (hs_16 : RC true s s_15) => ?_)
        exact ok_some hs_16
theorem T_X11_counted {a1 : Int32} {a2 : Int32} {s : mG} (hI : IC s) : ok (F_X11_counted a1 a2 s) (fun τ => RC true s τ.2) := by
  have hR : RC true s s := RC_refl hI
  unfold F_X11_counted
  refine ok_b1 (T_X2_isGuest isH_1 hR.1) (fun v_1 (hv_2 : PB v_1) => ?_)
  refine ok_ite (fun h_3 => ?_) (fun h_4 => ?_)
  · unfold F_X11_counted_21
    exact ok_some hR
  · refine ok_b1 (T_X11_isWithin hR.1) (fun v_5 (hv_6 : PB v_5) => ?_)
    refine ok_ite (fun h_7 => ?_) (fun h_8 => ?_)
    · unfold F_X11_counted_21
      exact ok_some hR
    · refine ok_b2 (ok_tr2 hR (T_X0_amongCounted hR.1)) (fun v_9 s_10 (hs_11 : RC true s s_10) => ?_)
      exact ok_some hs_11
theorem T_X11_empty {a1 : Int32} {s : mG} (hI : IC s) : ok (F_X11_empty a1 s) (fun τ => RC true s τ.2) := by
  have hR : RC true s s := RC_refl hI
  unfold F_X11_empty
  refine ok_b1 (T_X11_isWithin hR.1) (fun v_1 (hv_2 : PB v_1) => ?_)
  refine ok_ite (fun h_3 => ?_) (fun h_4 => ?_)
  · exact ok_some hR
  · refine ok_b2 (ok_tr2 hR (T_X0_emptyChance hR.1)) (fun v_5 s_6 (hs_7 : RC true s s_6) => ?_)
    exact ok_some hs_7
theorem T_X11_pair {a1 : Int32} {s : mG} (hI : IC s) : ok (F_X11_pair a1 s) (fun τ => RC true s τ.2) := by
  have hR : RC true s s := RC_refl hI
  unfold F_X11_pair
  refine ok_b1 (T_X11_isWithin hR.1) (fun v_1 (hv_2 : PB v_1) => ?_)
  refine ok_ite (fun h_3 => ?_) (fun h_4 => ?_)
  · unfold F_X11_pair_23
    exact ok_some hR
  · refine ok_ite (fun h_5 => ?_) (fun h_6 => ?_)
    · refine ok_b2 (ok_tr2 hR (T_X0_bestPair hR.1)) (fun v_7 s_8 (hs_9 : RC true s s_8) => ?_)
      exact ok_some hs_9
    · unfold F_X11_pair_23
      exact ok_some hR
theorem T_X11_lack {a1 : Int32} {s : mG} (hI : IC s) : ok (F_X11_lack a1 s) (fun τ => RC true s τ.2) := by
  have hR : RC true s s := RC_refl hI
  unfold F_X11_lack
  refine ok_ite (fun h_1 => ?_) (fun h_2 => ?_)
  · refine ok_b1 (T_X2_keylessSet isH_1 hR.1) (fun v_3 _ => ?_)
    refine ok_b1 (T_J6_bitCount_0f7a4 hR.1) (fun v_5 _ => ?_)
    exact ok_some hR
  · refine ok_ite (fun h_7 => ?_) (fun h_8 => ?_)
    · refine ok_b2 (ok_tr2 hR (T_X0_keylessOut hR.1)) (fun v_9 s_10 (hs_11 : RC true s s_10) => ?_)
      exact ok_some hs_11
    · refine ok_ite (fun h_12 => ?_) (fun h_13 => ?_)
      · refine ok_b1 (T_X2_keylessSet isH_1 hR.1) (fun v_14 _ => ?_)
        refine ok_b1 (T_X2_outSet isH_1 hR.1) (fun v_16 _ => ?_)
        refine ok_b1 (T_J6_bitCount_0f7a4 hR.1) (fun v_18 _ => ?_)
        exact ok_some hR
      · exact ok_some hR
theorem T_X11_visit {a1 : Int32} {a2 : Int32} {s : mG} (hI : IC s) : ok (F_X11_visit a1 a2 s) (fun τ => RC true s τ.2) := by
  have hR : RC true s s := RC_refl hI
  unfold F_X11_visit
  refine ok_b1 (T_X2_isGuest isH_1 hR.1) (fun v_1 (hv_2 : PB v_1) => ?_)
  refine ok_ite (fun h_3 => ?_) (fun h_4 => ?_)
  · unfold F_X11_visit_20
    exact ok_some hR
  · refine ok_b1 (T_X11_isWithin hR.1) (fun v_5 (hv_6 : PB v_5) => ?_)
    refine ok_ite (fun h_7 => ?_) (fun h_8 => ?_)
    · unfold F_X11_visit_20
      exact ok_some hR
    · refine ok_b2 (ok_tr2 hR (T_X0_sureOf hR.1)) (fun v_9 s_10 (hs_11 : RC true s s_10) => ?_)
      refine ok_ite (fun h_12 => ?_) (fun h_13 => ?_)
      · unfold F_X11_visit_45
        refine ok_b2 (ok_tr2 hs_11 (T_X1_bestVisit hs_11.1)) (fun v_14 s_15 (hs_16 : RC true s s_15) => ?_)
        exact ok_some hs_16
      · unfold F_X11_visit_45
        refine ok_b2 (ok_tr2 hs_11 (T_X1_bestVisit hs_11.1)) (fun v_17 s_18 (hs_19 : RC true s s_18) => ?_)
        exact ok_some hs_19
theorem T_X11_expect {s : mG} (hI : IC s) : ok (F_X11_expect s) (fun τ => RC true s τ.2) := by
  have hR : RC true s s := RC_refl hI
  unfold F_X11_expect
  refine ok_b2 (ok_tr2 hR (T_X1_movesNow hR.1)) (fun v_1 s_2 (hs_3 : RC true s s_2) => ?_)
  exact ok_some hs_3
theorem T_X11_busy {a1 : Int32} {s : mG} (hI : IC s) : ok (F_X11_busy a1 s) (fun τ => RC true s τ.2) := by
  have hR : RC true s s := RC_refl hI
  unfold F_X11_busy
  refine ok_ite (fun h_1 => ?_) (fun h_2 => ?_)
  · refine ok_b2 (ok_tr2 hR (T_X1_busiestClock hR.1)) (fun v_3 s_4 (hs_5 : RC true s s_4) => ?_)
    exact ok_some hs_5
  · refine ok_ite (fun h_6 => ?_) (fun h_7 => ?_)
    · refine ok_b2 (ok_tr2 hR (T_X1_busiestClock hR.1)) (fun v_8 s_9 (hs_10 : RC true s s_9) => ?_)
      refine ok_b2 (ok_tr2 hs_10 (T_X1_movesAt hs_10.1)) (fun v_11 s_12 (hs_13 : RC true s s_12) => ?_)
      exact ok_some hs_13
    · exact ok_some hR
theorem T_X11_tagCost {a1 : Int32} {a2 : Int32} {a3 : Int32} {s : mG} (hI : IC s) : ok (F_X11_tagCost a1 a2 a3 s) (fun τ => RC true s τ.2) := by
  have hR : RC true s s := RC_refl hI
  unfold F_X11_tagCost
  refine ok_b1 (T_X11_isWithin hR.1) (fun v_1 (hv_2 : PB v_1) => ?_)
  refine ok_ite (fun h_3 => ?_) (fun h_4 => ?_)
  · unfold F_X11_tagCost_32
    exact ok_some hR
  · refine ok_b1 (T_X11_isWithin hR.1) (fun v_5 (hv_6 : PB v_5) => ?_)
    refine ok_ite (fun h_7 => ?_) (fun h_8 => ?_)
    · unfold F_X11_tagCost_32
      exact ok_some hR
    · refine ok_b1 (T_X11_isWithin hR.1) (fun v_9 (hv_10 : PB v_9) => ?_)
      refine ok_ite (fun h_11 => ?_) (fun h_12 => ?_)
      · unfold F_X11_tagCost_32
        exact ok_some hR
      · refine ok_b2 (ok_tr2 hR (T_X1_costOfTag hR.1)) (fun v_13 s_14 (hs_15 : RC true s s_14) => ?_)
        exact ok_some hs_15
theorem T_X11_tag {a1 : Int32} {a2 : Int32} {s : mG} (hI : IC s) : ok (F_X11_tag a1 a2 s) (fun τ => RC true s τ.2) := by
  have hR : RC true s s := RC_refl hI
  unfold F_X11_tag
  refine ok_b1 (T_X11_isWithin hR.1) (fun v_1 (hv_2 : PB v_1) => ?_)
  refine ok_ite (fun h_3 => ?_) (fun h_4 => ?_)
  · unfold F_X11_tag_22
    exact ok_some hR
  · refine ok_b1 (T_X11_isWithin hR.1) (fun v_5 (hv_6 : PB v_5) => ?_)
    refine ok_ite (fun h_7 => ?_) (fun h_8 => ?_)
    · unfold F_X11_tag_22
      exact ok_some hR
    · refine ok_b2 (ok_tr2 hR (T_X1_bestTag hR.1)) (fun v_9 s_10 (hs_11 : RC true s s_10) => ?_)
      exact ok_some hs_11
theorem T_X11_stands {a1 : Int32} {a2 : Int32} {s : mG} (hI : IC s) : ok (F_X11_stands a1 a2 s) (fun τ => RC true s τ.2) := by
  have hR : RC true s s := RC_refl hI
  unfold F_X11_stands
  refine ok_b1 (T_X11_isWithin hR.1) (fun v_1 (hv_2 : PB v_1) => ?_)
  refine ok_ite (fun h_3 => ?_) (fun h_4 => ?_)
  · unfold F_X11_stands_26
    exact ok_some hR
  · refine ok_ite (fun h_5 => ?_) (fun h_6 => ?_)
    · unfold F_X11_stands_28
      refine ok_b1 (ok_tr hR (T_X1_plan hR.1)) (fun s_7 (hs_8 : RC true s s_7) => ?_)
      refine ok_ite (fun h_9 => ?_) (fun h_10 => ?_)
      · refine ok_b1 (T_X1_mostSeen hs_8.1) (fun v_11 _ => ?_)
        exact ok_some hs_8
      · refine ok_b1 (T_X1_doorAt hs_8.1) (fun v_13 _ => ?_)
        exact ok_some hs_8
    · refine ok_b1 (T_X11_isWithin hR.1) (fun v_15 (hv_16 : PB v_15) => ?_)
      refine ok_ite (fun h_17 => ?_) (fun h_18 => ?_)
      · unfold F_X11_stands_26
        exact ok_some hR
      · unfold F_X11_stands_28
        refine ok_b1 (ok_tr hR (T_X1_plan hR.1)) (fun s_19 (hs_20 : RC true s s_19) => ?_)
        refine ok_ite (fun h_21 => ?_) (fun h_22 => ?_)
        · refine ok_b1 (T_X1_mostSeen hs_20.1) (fun v_23 _ => ?_)
          exact ok_some hs_20
        · refine ok_b1 (T_X1_doorAt hs_20.1) (fun v_25 _ => ?_)
          exact ok_some hs_20
theorem T_X11_carries {s : mG} (hI : IC s) : ok (F_X11_carries s) (fun τ => RC true s τ.2) := by
  have hR : RC true s s := RC_refl hI
  unfold F_X11_carries
  refine ok_b2 (ok_tr2 hR (T_X1_likeliestToCarry hR.1)) (fun v_1 s_2 (hs_3 : RC true s s_2) => ?_)
  exact ok_some hs_3
theorem T_X11_away {a1 : Int32} {a2 : Int32} {s : mG} (hI : IC s) : ok (F_X11_away a1 a2 s) (fun τ => RC true s τ.2) := by
  have hR : RC true s s := RC_refl hI
  unfold F_X11_away
  refine ok_b1 (T_X2_isGuest isH_1 hR.1) (fun v_1 (hv_2 : PB v_1) => ?_)
  refine ok_ite (fun h_3 => ?_) (fun h_4 => ?_)
  · unfold F_X11_away_32
    exact ok_some hR
  · refine ok_b1 (T_X11_isWithin hR.1) (fun v_5 (hv_6 : PB v_5) => ?_)
    refine ok_ite (fun h_7 => ?_) (fun h_8 => ?_)
    · unfold F_X11_away_32
      exact ok_some hR
    · refine ok_b1 (T_X2_isOut isH_1 hR.1) (fun v_9 (hv_10 : PB v_9) => ?_)
      refine ok_ite (fun h_11 => ?_) (fun h_12 => ?_)
      · unfold F_X11_away_32
        exact ok_some hR
      · refine ok_b2 (ok_tr2 hR (T_X1_stillOut hR.1)) (fun v_13 s_14 (hs_15 : RC true s s_14) => ?_)
        exact ok_some hs_15
theorem T_X11_knocks {a1 : Int32} {s : mG} (hI : IC s) : ok (F_X11_knocks a1 s) (fun τ => RC true s τ.2) := by
  have hR : RC true s s := RC_refl hI
  unfold F_X11_knocks
  refine ok_b2 (ok_tr2 hR (T_X9_roomAt hR.1)) (fun v_1 s_2 (hs_3 : RC true s s_2) => ?_)
  exact ok_some hs_3
theorem T_X11_done {s : mG} {a1 : Int32} (hI : IC s) : ok (F_X11_done s a1) PT := by
  have hR : RC true s s := RC_refl hI
  unfold F_X11_done
  refine ok_b1 (T_X11_isWithin hR.1) (fun v_1 (hv_2 : PB v_1) => ?_)
  refine ok_ite (fun h_3 => ?_) (fun h_4 => ?_)
  · exact ok_some trivial
  · refine ok_b1 (T_X9_bestRooms hR.1) (fun v_5 _ => ?_)
    refine ok_ite (fun h_7 => ?_) (fun h_8 => ?_)
    · refine ok_b1 (T_X9_worthOf hR.1) (fun v_9 _ => ?_)
      exact ok_some trivial
    · exact ok_some trivial
theorem T_X11_fire {a1 : Int32} {a2 : Int32} {s : mG} (hI : IC s) : ok (F_X11_fire a1 a2 s) (fun τ => RC true s τ.2) := by
  have hR : RC true s s := RC_refl hI
  unfold F_X11_fire
  refine ok_b1 (T_X11_isWithin hR.1) (fun v_1 (hv_2 : PB v_1) => ?_)
  refine ok_ite (fun h_3 => ?_) (fun h_4 => ?_)
  · exact ok_some hR
  · refine ok_b1 (ok_tr hR (T_X9_searchFloors hR.1)) (fun s_5 (hs_6 : RC true s s_5) => ?_)
    refine ok_ite (fun h_7 => ?_) (fun h_8 => ?_)
    · extract_lets +onlyGivenNames v_9
      clear_value v_9
      exact ok_some hs_6
    · refine ok_ite (fun h_10 => ?_) (fun h_11 => ?_)
      · exact ok_some hs_6
      · refine ok_ite (fun h_12 => ?_) (fun h_13 => ?_)
        · unfold F_X11_fire_87
          exact ok_some hs_6
        · refine ok_ite (fun h_14 => ?_) (fun h_15 => ?_)
          · unfold F_X11_fire_87
            exact ok_some hs_6
          · refine ok_b1 (T_X11_cell sh87 hs_6.1) (fun v_16 _ => ?_)
            exact ok_some hs_6
end
