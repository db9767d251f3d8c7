noncomputable section
theorem T_X1_costOfTag {a1 : Int32} {a2 : Int32} {a3 : Int32} {s : mG} (hI : IC s) : ok (F_X1_costOfTag a1 a2 a3 s) (fun τ => RC true s τ.2) := by
  have hR : RC true s s := RC_refl hI
  unfold F_X1_costOfTag
  unfold F_X1_costOfTag_L6
  refine ok_whl (fun v => a1 = v.1 ∧ a2 = v.2.1 ∧ a3 = v.2.2.1 ∧ RC true s v.2.2.2.2.2 ∧ ¬ v.2.2.2.2.1 < 0) (fun v => mUp v.2.2.2.2.1) ⟨rfl, rfl, rfl, hR, nn0⟩ (fun v hv => ?_)
  obtain ⟨x_6, x_7, x_8, x_9, x_10, s_11⟩ := v
  obtain ⟨rfl, rfl, rfl, rhs_12, rhn_13⟩ := hv
  have hs_12 : RC true s s_11 := rhs_12
  have hn_13 : ¬ x_10 < 0 := rhn_13
  show ok (F_X1_costOfTag_B6 a1 a2 a3 x_9 x_10 s_11) _
  unfold F_X1_costOfTag_B6
  refine ok_ite (fun h_14 => ?_) (fun h_15 => ?_)
  · extract_lets +onlyGivenNames v_16
    clear_value v_16
    exact ok_some (lp_inr (hs_12))
  · refine ok_b1 (ok_tr hs_12 (T_X3_face hs_12.1)) (fun s_17 (hs_18 : RC true s s_17) => ?_)
    refine ok_b1 (ok_tr hs_18 (T_X3_suppose hs_18.1)) (fun s_19 (hs_20 : RC true s s_19) => ?_)
    refine ok_b2 (ok_tr2 hs_20 (T_X3_tells hs_20.1)) (fun v_21 s_22 (hs_23 : RC true s s_22) => ?_)
    exact ok_some (lp_inl ⟨rfl, rfl, rfl, hs_23, (up_nn hn_13 (ge_t h_15))⟩ (up_t (ge_t h_15)))
theorem T_X1_bestTag {a1 : Int32} {a2 : Int32} {s : mG} (hI : IC s) : ok (F_X1_bestTag a1 a2 s) (fun τ => RC true s τ.2) := by
  have hR : RC true s s := RC_refl hI
  unfold F_X1_bestTag
  refine ok_b2 (ok_tr2 hR (T_X1_costOfTag hR.1)) (fun v_1 s_2 (hs_3 : RC true s s_2) => ?_)
  unfold F_X1_bestTag_L14
  refine ok_whl (fun v => a1 = v.1 ∧ a2 = v.2.1 ∧ RC true s v.2.2.2.2.2 ∧ ¬ v.2.2.2.2.1 < 0) (fun v => mUp v.2.2.2.2.1) ⟨rfl, rfl, hs_3, nn1⟩ (fun v hv => ?_)
  obtain ⟨x_6, x_7, x_8, x_9, x_10, s_11⟩ := v
  obtain ⟨rfl, rfl, rhs_12, rhn_13⟩ := hv
  have hs_12 : RC true s s_11 := rhs_12
  have hn_13 : ¬ x_10 < 0 := rhn_13
  show ok (F_X1_bestTag_B14 a1 a2 x_8 x_9 x_10 s_11) _
  unfold F_X1_bestTag_B14
  refine ok_ite (fun h_14 => ?_) (fun h_15 => ?_)
  · exact ok_some (lp_inr (hs_12))
  · refine ok_b2 (ok_tr2 hs_12 (T_X1_costOfTag hs_12.1)) (fun v_16 s_17 (hs_18 : RC true s s_17) => ?_)
    refine ok_ite (fun h_19 => ?_) (fun h_20 => ?_)
    · unfold F_X1_bestTag_45
      exact ok_some (lp_inl ⟨rfl, rfl, hs_18, (up_nn hn_13 (le_t h_15 (by decide)))⟩ (up_t (le_t h_15 (by decide))))
    · unfold F_X1_bestTag_45
      exact ok_some (lp_inl ⟨rfl, rfl, hs_18, (up_nn hn_13 (le_t h_15 (by decide)))⟩ (up_t (le_t h_15 (by decide))))
theorem T_X1_likeliestToCarry {s : mG} (hI : IC s) : ok (F_X1_likeliestToCarry s) (fun τ => RC true s τ.2) := by
  have hR : RC true s s := RC_refl hI
  unfold F_X1_likeliestToCarry
  unfold F_X1_likeliestToCarry_L6
  refine ok_whl (fun v => RC true s v.2.2.2 ∧ ¬ v.2.2.1 < 0) (fun v => mUp v.2.2.1) ⟨hR, nn0⟩ (fun v hv => ?_)
  obtain ⟨x_4, x_5, x_6, s_7⟩ := v
  obtain ⟨rhs_8, rhn_9⟩ := hv
  have hs_8 : RC true s s_7 := rhs_8
  have hn_9 : ¬ x_6 < 0 := rhn_9
  show ok (F_X1_likeliestToCarry_B6 x_4 x_5 x_6 s_7) _
  unfold F_X1_likeliestToCarry_B6
  refine ok_ite (fun h_10 => ?_) (fun h_11 => ?_)
  · exact ok_some (lp_inr (hs_8))
  · refine ok_b1 (ok_tr hs_8 (T_X3_face hs_8.1)) (fun s_12 (hs_13 : RC true s s_12) => ?_)
    refine ok_b2 (ok_tr2 hs_13 (T_X3_tells hs_13.1)) (fun v_14 s_15 (hs_16 : RC true s s_15) => ?_)
    refine ok_ite (fun h_17 => ?_) (fun h_18 => ?_)
    · unfold F_X1_likeliestToCarry_49
      exact ok_some (lp_inl ⟨hs_16, (up_nn hn_9 (ge_t h_11))⟩ (up_t (ge_t h_11)))
    · unfold F_X1_likeliestToCarry_49
      exact ok_some (lp_inl ⟨hs_16, (up_nn hn_9 (ge_t h_11))⟩ (up_t (ge_t h_11)))
/-! X10_put: by hand -/
theorem T_X1_countGoings {a1 : Int32} {s : mG} (hI : IC s) : ok (F_X1_countGoings a1 s) (RC true s) := by
  have hR : RC true s s := RC_refl hI
  unfold F_X1_countGoings
  unfold F_X1_countGoings_L7
  refine ok_whl (fun v => a1 = v.1 ∧ RC true s v.2.2.2.2 ∧ ¬ v.2.2.2.1 < 0) (fun v => mUp v.2.2.2.1) ⟨rfl, hR, nn0⟩ (fun v hv => ?_)
  obtain ⟨x_11, x_12, x_13, x_14, s_15⟩ := v
  obtain ⟨rfl, rhs_16, rhn_17⟩ := hv
  have hs_16 : RC true s s_15 := rhs_16
  have hn_17 : ¬ x_14 < 0 := rhn_17
  show ok (F_X1_countGoings_B7 a1 x_12 x_13 x_14 s_15) _
  unfold F_X1_countGoings_B7
  refine ok_ite (fun h_18 => ?_) (fun h_19 => ?_)
  · refine ok_b1 (ok_tr hs_16 (T_X10_put isT_78 hs_16.1)) (fun s_20 (hs_21 : RC true s s_20) => ?_)
    refine ok_b1 (ok_tr hs_21 (T_X10_put isT_78 hs_21.1)) (fun s_22 (hs_23 : RC true s s_22) => ?_)
    exact ok_some (lp_inr (hs_23))
  · refine ok_b1 (T_X2_isOut isH_1 hs_16.1) (fun v_24 (hv_25 : PB v_24) => ?_)
    refine ok_ite (fun h_26 => ?_) (fun h_27 => ?_)
    · refine ok_b1 (ok_tr hs_16 (T_X3_face hs_16.1)) (fun s_28 (hs_29 : RC true s s_28) => ?_)
      refine ok_b1 (ok_tr hs_29 (T_X3_suppose hs_29.1)) (fun s_30 (hs_31 : RC true s s_30) => ?_)
      refine ok_b2 (ok_tr2 hs_31 (T_X3_tells hs_31.1)) (fun v_32 s_33 (hs_34 : RC true s s_33) => ?_)
      refine ok_b2 (ok_tr2 hs_34 (T_X3_tells hs_34.1)) (fun v_35 s_36 (hs_37 : RC true s s_36) => ?_)
      extract_lets +onlyGivenNames v_38
      clear_value v_38
      unfold F_X1_countGoings_92
      exact ok_some (lp_inl ⟨rfl, hs_37, (up_nn hn_17 (ge_t h_19))⟩ (up_t (ge_t h_19)))
    · unfold F_X1_countGoings_92
      exact ok_some (lp_inl ⟨rfl, hs_16, (up_nn hn_17 (ge_t h_19))⟩ (up_t (ge_t h_19)))
theorem T_X1_restFrom {s : mG} {a1 : Int32} {a2 : Int32} {a3 : Int32} {a4 : Int32} (hI : IC s) : ok (F_X1_restFrom s a1 a2 a3 a4) PT := by
  have hR : RC true s s := RC_refl hI
  unfold F_X1_restFrom
  refine ok_ite (fun h_1 => ?_) (fun h_2 => ?_)
  · refine ok_b1 (T_X10_at isT_80 hR.1) (fun v_3 _ => ?_)
    refine ok_ite (fun h_5 => ?_) (fun h_6 => ?_)
    · unfold F_X1_restFrom_30
      exact ok_some trivial
    · unfold F_X1_restFrom_30
      exact ok_some trivial
  · exact ok_some trivial
theorem T_X10_isFull {t : Nat} {s : mG} (h_t : isT t) (hI : IC s) : ok (F_X10_isFull t s) (fun v => PB v ∧ (v = 0 → s.1 t 3 < s.1 t 0)) := by
  unfold F_X10_isFull
  refine ok_ite (fun h => ?_) (fun h => ?_)
  · exact ok_some ⟨pb0, fun _ => h⟩
  · exact ok_some ⟨pb1, fun q => absurd q (by decide)⟩
theorem hv_full {t : Nat} {s : mG} {v : Int32} (h : PB v ∧ (v = 0 → s.1 t 3 < s.1 t 0)) (hv : v = 0) : s.1 t 3 < s.1 t 0 := h.2 hv
theorem t_nle {x y : Int32} (h : ¬ y ≤ x) : x < y := by
  rw [Int32.le_iff_toInt_le] at h
  rw [Int32.lt_iff_toInt_lt]
  omega
theorem rows_add {t : Nat} {s : mG} (hI : IC s) (h : s.1 t 3 < s.1 t 0) : t = 2 → s.1 t 3 + ci 1 ≤ ci 12 := by
  intro q
  subst q
  rw [hI.1] at h
  have h2 := lt_t h
  rw [Int32.lt_iff_toInt_lt, show (ci 12).toInt = 12 by decide] at h
  rw [Int32.le_iff_toInt_le, show (ci 12).toInt = 12 by decide, t_up h2]
  omega
theorem rows_copy {t : Nat} {s : mG} {x : Int32} (hI : IC s) : t = 2 → imin x (s.1 t 0) ≤ ci 12 := by
  intro q
  subst q
  rw [hI.1]
  unfold imin
  by_cases h : ci 12 < x
  · rw [if_pos h]; exact Int32.le_refl _
  · rw [if_neg h]
    rw [Int32.lt_iff_toInt_lt] at h
    rw [Int32.le_iff_toInt_le]
    omega
theorem T_X10_add {t : Nat} {s : mG} (h_t : isT t) (hI : IC s) : ok (F_X10_add t s) (fun τ => RC true s τ.2) := by
  have hR : RC true s s := RC_refl hI
  unfold F_X10_add
  refine ok_b1 (T_X10_isFull h_t hR.1) (fun v_1 (hv_2 : PB v_1 ∧ (v_1 = 0 → s.1 t 3 < s.1 t 0)) => ?_)
  refine ok_ite (fun h_3 => ?_) (fun h_4 => ?_)
  · extract_lets +onlyGivenNames s_5
    have hs_6 : RC true s s_5 := (RC_rows hR h_t (rows_add hI (hv_full hv_2 h_3)))
    clear_value s_5
    exact ok_some hs_6
  · exact ok_some hR
theorem T_X10_clear {t : Nat} {s : mG} (h_t : isT t) (hI : IC s) : ok (F_X10_clear t s) (RC true s) := by
  have hR : RC true s s := RC_refl hI
  unfold F_X10_clear
  extract_lets +onlyGivenNames s_1
  have hs_2 : RC true s s_1 := (RC_rows hR h_t (fun _ => le_z12))
  clear_value s_1
  exact ok_some hs_2
theorem T_X1_plan {a1 : Int32} {s : mG} (hI : IC s) : ok (F_X1_plan a1 s) (RC true s) := by
  have hR : RC true s s := RC_refl hI
  unfold F_X1_plan
  refine ok_b1 (ok_tr hR (T_X10_clear isT_78 hR.1)) (fun s_1 (hs_2 : RC true s s_1) => ?_)
  refine ok_b1 (ok_tr hs_2 (T_X10_clear isT_80 hs_2.1)) (fun s_3 (hs_4 : RC true s s_3) => ?_)
  unfold F_X1_plan_L16
  refine ok_whl (fun v => a1 = v.1 ∧ RC true s v.2.2 ∧ ¬ v.2.1 < 0) (fun v => mUp v.2.1) ⟨rfl, hs_4, nn0⟩ (fun v hv => ?_)
  obtain ⟨x_10, x_11, s_12⟩ := v
  obtain ⟨rfl, rhs_13, rhn_14⟩ := hv
  have hs_13 : RC true s s_12 := rhs_13
  have hn_14 : ¬ x_11 < 0 := rhn_14
  show ok (F_X1_plan_B16 a1 x_11 s_12) _
  unfold F_X1_plan_B16
  refine ok_ite (fun h_15 => ?_) (fun h_16 => ?_)
  · refine ok_b1r ?_
    unfold F_X1_plan_L52
    refine ok_whl (fun v => a1 = v.1 ∧ RC true s v.2.2) (fun v => mDn v.2.1) ⟨rfl, hs_13⟩ (fun v hv => ?_)
    obtain ⟨x_27, x_28, s_29⟩ := v
    obtain ⟨rfl, rhs_30⟩ := hv
    have hs_30 : RC true s s_29 := rhs_30
    show ok (F_X1_plan_B52 a1 x_28 s_29) _
    unfold F_X1_plan_B52
    refine ok_ite (fun h_31 => ?_) (fun h_32 => ?_)
    · exact ok_some (lp_inr (hs_30))
    · unfold F_X1_plan_L58
      refine ok_whl (fun v => a1 = v.1 ∧ x_28 = v.2.1 ∧ RC true s v.2.2.2 ∧ ¬ v.2.2.1 < 0) (fun v => mUp v.2.2.1) ⟨rfl, rfl, hs_30, nn0⟩ (fun v hv => ?_)
      obtain ⟨x_33, x_34, x_35, s_36⟩ := v
      obtain ⟨rfl, rfl, rhs_37, rhn_38⟩ := hv
      have hs_37 : RC true s s_36 := rhs_37
      have hn_38 : ¬ x_35 < 0 := rhn_38
      show ok (F_X1_plan_B58 a1 x_28 x_35 s_36) _
      unfold F_X1_plan_B58
      refine ok_ite (fun h_39 => ?_) (fun h_40 => ?_)
      · exact ok_some (lp_inr (lp_inl ⟨rfl, hs_37⟩ (dn_t h_32)))
      · refine ok_b1 (T_X1_restFrom hs_37.1) (fun v_41 _ => ?_)
        refine ok_b1 (T_X1_restFrom hs_37.1) (fun v_43 _ => ?_)
        refine ok_b1 (T_X10_at isT_78 hs_37.1) (fun v_45 _ => ?_)
        refine ok_b1 (ok_tr hs_37 (T_X10_put isT_80 hs_37.1)) (fun s_47 (hs_48 : RC true s s_47) => ?_)
        exact ok_some (lp_inl ⟨rfl, rfl, hs_48, (up_nn hn_38 (ge_t h_40))⟩ (up_t (ge_t h_40)))
  · refine ok_b2 (ok_tr2 hs_13 (T_X10_add isT_78 hs_13.1)) (fun v_49 s_50 (hs_51 : RC true s s_50) => ?_)
    refine ok_b2 (ok_tr2 hs_51 (T_X10_add isT_80 hs_51.1)) (fun v_52 s_53 (hs_54 : RC true s s_53) => ?_)
    refine ok_b1 (ok_tr hs_54 (T_X1_countGoings hs_54.1)) (fun s_55 (hs_56 : RC true s s_55) => ?_)
    exact ok_some (lp_inl ⟨rfl, hs_56, (up_nn hn_14 (ge_t h_16))⟩ (up_t (ge_t h_16)))
theorem T_X1_mostSeen {s : mG} (hI : IC s) : ok (F_X1_mostSeen s) PT := by
  have hR : RC true s s := RC_refl hI
  unfold F_X1_mostSeen
  refine ok_b1 (T_X10_at isT_80 hR.1) (fun v_1 _ => ?_)
  refine ok_b1 (T_X10_at isT_80 hR.1) (fun v_3 _ => ?_)
  exact ok_some trivial
theorem T_X1_doorAt {s : mG} {a1 : Int32} {a2 : Int32} (hI : IC s) : ok (F_X1_doorAt s a1 a2) PT := by
  have hR : RC true s s := RC_refl hI
  unfold F_X1_doorAt
  refine ok_b1 (T_X10_at isT_80 hR.1) (fun v_1 _ => ?_)
  refine ok_b1 (T_X10_at isT_80 hR.1) (fun v_3 _ => ?_)
  refine ok_ite (fun h_5 => ?_) (fun h_6 => ?_)
  · unfold F_X1_doorAt_26
    unfold F_X1_doorAt_L30
    refine ok_whl (fun v => a1 = v.1 ∧ a2 = v.2.1 ∧ ¬ v.2.2.2 < 0) (fun v => mUp v.2.2.2) ⟨rfl, rfl, nn1⟩ (fun v hv => ?_)
    obtain ⟨x_9, x_10, x_11, x_12⟩ := v
    obtain ⟨rfl, rfl, rhn_13⟩ := hv
    have hn_13 : ¬ x_12 < 0 := rhn_13
    show ok (F_X1_doorAt_B30 s a1 a2 x_11 x_12) _
    unfold F_X1_doorAt_B30
    refine ok_ite (fun h_14 => ?_) (fun h_15 => ?_)
    · refine ok_b1r ?_
      unfold F_X1_doorAt_76
      exact ok_some trivial
    · refine ok_ite (fun h_16 => ?_) (fun h_17 => ?_)
      · refine ok_b1r ?_
        unfold F_X1_doorAt_76
        exact ok_some trivial
      · refine ok_b1 (T_X1_restFrom hR.1) (fun v_18 _ => ?_)
        refine ok_b1 (T_X1_restFrom hR.1) (fun v_20 _ => ?_)
        refine ok_ite (fun h_22 => ?_) (fun h_23 => ?_)
        · unfold F_X1_doorAt_69
          exact ok_some (lp_inl ⟨rfl, rfl, (up_nn hn_13 (ge_t h_17))⟩ (up_t (ge_t h_17)))
        · unfold F_X1_doorAt_69
          exact ok_some (lp_inl ⟨rfl, rfl, (up_nn hn_13 (ge_t h_17))⟩ (up_t (ge_t h_17)))
  · unfold F_X1_doorAt_26
    unfold F_X1_doorAt_L30
    refine ok_whl (fun v => a1 = v.1 ∧ a2 = v.2.1 ∧ ¬ v.2.2.2 < 0) (fun v => mUp v.2.2.2) ⟨rfl, rfl, nn1⟩ (fun v hv => ?_)
    obtain ⟨x_24, x_25, x_26, x_27⟩ := v
    obtain ⟨rfl, rfl, rhn_28⟩ := hv
    have hn_28 : ¬ x_27 < 0 := rhn_28
    show ok (F_X1_doorAt_B30 s a1 a2 x_26 x_27) _
    unfold F_X1_doorAt_B30
    refine ok_ite (fun h_29 => ?_) (fun h_30 => ?_)
    · refine ok_b1r ?_
      unfold F_X1_doorAt_76
      exact ok_some trivial
    · refine ok_ite (fun h_31 => ?_) (fun h_32 => ?_)
      · refine ok_b1r ?_
        unfold F_X1_doorAt_76
        exact ok_some trivial
      · refine ok_b1 (T_X1_restFrom hR.1) (fun v_33 _ => ?_)
        refine ok_b1 (T_X1_restFrom hR.1) (fun v_35 _ => ?_)
        refine ok_ite (fun h_37 => ?_) (fun h_38 => ?_)
        · unfold F_X1_doorAt_69
          exact ok_some (lp_inl ⟨rfl, rfl, (up_nn hn_28 (ge_t h_32))⟩ (up_t (ge_t h_32)))
        · unfold F_X1_doorAt_69
          exact ok_some (lp_inl ⟨rfl, rfl, (up_nn hn_28 (ge_t h_32))⟩ (up_t (ge_t h_32)))
theorem T_X10_copyFrom {t : Nat} {a1 : Nat} {s : mG} (h_t : isT t) (h_a1 : isT a1) (hI : IC s) : ok (F_X10_copyFrom t a1 s) (RC true s) := by
  have hR : RC true s s := RC_refl hI
  unfold F_X10_copyFrom
  extract_lets +onlyGivenNames s_1
  have hs_2 : RC true s s_1 := (RC_rows hR h_t (rows_copy hI))
  clear_value s_1
  extract_lets +onlyGivenNames v_3
  clear_value v_3
  unfold F_X10_copyFrom_L27
  refine ok_whl (fun v => v_3 = v.1 ∧ RC true s v.2.2 ∧ ¬ v.2.1 < 0) (fun v => mUp v.2.1) ⟨rfl, hs_2, nn0⟩ (fun v hv => ?_)
  obtain ⟨x_5, x_6, s_7⟩ := v
  obtain ⟨rfl, rhs_8, rhn_9⟩ := hv
  have hs_8 : RC true s s_7 := rhs_8
  have hn_9 : ¬ x_6 < 0 := rhn_9
  show ok (F_X10_copyFrom_B27 t a1 v_3 x_6 s_7) _
  unfold F_X10_copyFrom_B27
  refine ok_ite (fun h_10 => ?_) (fun h_11 => ?_)
  · exact ok_some (lp_inr (hs_8))
  · refine ok_ite (fun h_12 => ?_) (fun h_13 => ?_)
    · exact ok_some (lp_inr (hs_8))
    · refine ok_ite (fun h_14 => ?_) (fun h_15 => ?_)
      · exact ok_some (lp_inr (hs_8))
      · refine ok_nn (idx_ok (m_alen_lt _) hn_9 h_15) ?_
        refine ok_nn (idx_ok (m_alen_lt _) hn_9 h_13) ?_
        extract_lets +onlyGivenNames s_16
        have hs_17 : RC true s s_16 := (RC_mt hs_8 h_t)
        clear_value s_16
        exact ok_some (lp_inl ⟨rfl, hs_17, (up_nn hn_9 (ge_t h_15))⟩ (up_t (ge_t h_15)))
theorem T_X2_copyFrom {hh : Nat} {a1 : Nat} {s : mG} (h_hh : isH hh) (h_a1 : isH a1) (hI : IC s) : ok (F_X2_copyFrom hh a1 s) (RC true s) := by
  have hR : RC true s s := RC_refl hI
  unfold F_X2_copyFrom
  refine ok_b1 (ok_tr hR (T_X10_copyFrom (isH_t h_hh 0 (by decide)) (isH_t h_a1 0 (by decide)) hR.1)) (fun s_1 (hs_2 : RC true s s_1) => ?_)
  refine ok_b1 (ok_tr hs_2 (T_X10_copyFrom (isH_t h_hh 1 (by decide)) (isH_t h_a1 1 (by decide)) hs_2.1)) (fun s_3 (hs_4 : RC true s s_3) => ?_)
  refine ok_b1 (ok_tr hs_4 (T_X10_copyFrom (isH_t h_hh 2 (by decide)) (isH_t h_a1 2 (by decide)) hs_4.1)) (fun s_5 (hs_6 : RC true s s_5) => ?_)
  refine ok_b1 (ok_tr hs_6 (T_X10_copyFrom (isH_t h_hh 3 (by decide)) (isH_t h_a1 3 (by decide)) hs_6.1)) (fun s_7 (hs_8 : RC true s s_7) => ?_)
  refine ok_b1 (ok_tr hs_8 (T_X10_copyFrom (isH_t h_hh 4 (by decide)) (isH_t h_a1 4 (by decide)) hs_8.1)) (fun s_9 (hs_10 : RC true s s_9) => ?_)
  refine ok_b1 (ok_tr hs_10 (T_X10_copyFrom (isH_t h_hh 5 (by decide)) (isH_t h_a1 5 (by decide)) hs_10.1)) (fun s_11 (hs_12 : RC true s s_11) => ?_)
  refine ok_b1 (ok_tr hs_12 (T_X10_copyFrom (isH_t h_hh 6 (by decide)) (isH_t h_a1 6 (by decide)) hs_12.1)) (fun s_13 (hs_14 : RC true s s_13) => ?_)
  refine ok_b1 (ok_tr hs_14 (T_X10_copyFrom (isH_t h_hh 7 (by decide)) (isH_t h_a1 7 (by decide)) hs_14.1)) (fun s_15 (hs_16 : RC true s s_15) => ?_)
  extract_lets +onlyGivenNames s_17
  have hs_18 : RC true s s_17 := (RC_mh hs_16 h_hh)
  clear_value s_17
  extract_lets +onlyGivenNames s_19
  have hs_20 : RC true s s_19 := (RC_mh hs_18 h_hh)
  clear_value s_19
  extract_lets +onlyGivenNames s_21
  have hs_22 : RC true s s_21 := (RC_mh hs_20 h_hh)
  clear_value s_21
  extract_lets +onlyGivenNames s_23
  have hs_24 : RC true s s_23 := (RC_mh hs_22 h_hh)
  clear_value s_23
  exact ok_some hs_24
theorem T_X2_forgetSeenOf {hh : Nat} {a1 : Int32} {s : mG} (h_hh : isH hh) (hI : IC s) : ok (F_X2_forgetSeenOf hh a1 s) (RC true s) := by
  have hR : RC true s s := RC_refl hI
  unfold F_X2_forgetSeenOf
  unfold F_X2_forgetSeenOf_L2
  refine ok_whl (fun v => a1 = v.1 ∧ RC true s v.2.2 ∧ ¬ v.2.1 < 0) (fun v => mUp v.2.1) ⟨rfl, hR, nn0⟩ (fun v hv => ?_)
  obtain ⟨x_2, x_3, s_4⟩ := v
  obtain ⟨rfl, rhs_5, rhn_6⟩ := hv
  have hs_5 : RC true s s_4 := rhs_5
  have hn_6 : ¬ x_3 < 0 := rhn_6
  show ok (F_X2_forgetSeenOf_B2 hh a1 x_3 s_4) _
  unfold F_X2_forgetSeenOf_B2
  refine ok_ite (fun h_7 => ?_) (fun h_8 => ?_)
  · exact ok_some (lp_inr (hs_5))
  · refine ok_b1 (ok_tr hs_5 (T_X10_put (isH_t h_hh 0 (by decide)) hs_5.1)) (fun s_9 (hs_10 : RC true s s_9) => ?_)
    exact ok_some (lp_inl ⟨rfl, hs_10, (up_nn hn_6 (ge_t h_8))⟩ (up_t (ge_t h_8)))
theorem T_X2_addGuest {hh : Nat} {a1 : Int32} {a2 : Int32} {s : mG} (h_hh : isH hh) (hI : IC s) : ok (F_X2_addGuest hh a1 a2 s) (fun τ => RC true s τ.2) := by
  have hR : RC true s s := RC_refl hI
  unfold F_X2_addGuest
  refine ok_b2 (ok_tr2 hR (T_X10_add (isH_t h_hh 0 (by decide)) hR.1)) (fun v_1 s_2 (hs_3 : RC true s s_2) => ?_)
  refine ok_b1 (ok_tr hs_3 (T_X10_put (isH_t h_hh 0 (by decide)) hs_3.1)) (fun s_4 (hs_5 : RC true s s_4) => ?_)
  refine ok_b1 (ok_tr hs_5 (T_X10_put (isH_t h_hh 0 (by decide)) hs_5.1)) (fun s_6 (hs_7 : RC true s s_6) => ?_)
  refine ok_b1 (ok_tr hs_7 (T_X10_put (isH_t h_hh 0 (by decide)) hs_7.1)) (fun s_8 (hs_9 : RC true s s_8) => ?_)
  refine ok_b1 (ok_tr hs_9 (T_X10_put (isH_t h_hh 0 (by decide)) hs_9.1)) (fun s_10 (hs_11 : RC true s s_10) => ?_)
  refine ok_b1 (ok_tr hs_11 (T_X10_put (isH_t h_hh 0 (by decide)) hs_11.1)) (fun s_12 (hs_13 : RC true s s_12) => ?_)
  refine ok_b1 (ok_tr hs_13 (T_X2_forgetSeenOf h_hh hs_13.1)) (fun s_14 (hs_15 : RC true s s_14) => ?_)
  exact ok_some hs_15
theorem T_X2_forgetSeen {hh : Nat} {s : mG} (h_hh : isH hh) (hI : IC s) : ok (F_X2_forgetSeen hh s) (RC true s) := by
  have hR : RC true s s := RC_refl hI
  unfold F_X2_forgetSeen
  unfold F_X2_forgetSeen_L2
  refine ok_whl (fun v => RC true s v.2 ∧ ¬ v.1 < 0) (fun v => mUp v.1) ⟨hR, nn0⟩ (fun v hv => ?_)
  obtain ⟨x_2, s_3⟩ := v
  obtain ⟨rhs_4, rhn_5⟩ := hv
  have hs_4 : RC true s s_3 := rhs_4
  have hn_5 : ¬ x_2 < 0 := rhn_5
  show ok (F_X2_forgetSeen_B2 hh x_2 s_3) _
  unfold F_X2_forgetSeen_B2
  refine ok_ite (fun h_6 => ?_) (fun h_7 => ?_)
  · exact ok_some (lp_inr (hs_4))
  · refine ok_b1 (ok_tr hs_4 (T_X2_forgetSeenOf h_hh hs_4.1)) (fun s_8 (hs_9 : RC true s s_8) => ?_)
    exact ok_some (lp_inl ⟨hs_9, (up_nn hn_5 (ge_t h_7))⟩ (up_t (ge_t h_7)))
theorem T_X10_hasRow {t : Nat} {s : mG} {a1 : Int32} (h_t : isT t) (hI : IC s) : ok (F_X10_hasRow t s a1) PB := by
  have hR : RC true s s := RC_refl hI
  unfold F_X10_hasRow
  refine ok_ite (fun h_1 => ?_) (fun h_2 => ?_)
  · unfold F_X10_hasRow_16
    exact ok_some pb0
  · refine ok_ite (fun h_3 => ?_) (fun h_4 => ?_)
    · unfold F_X10_hasRow_16
      exact ok_some pb0
    · exact ok_some pb1
theorem T_X2_isGuest {hh : Nat} {s : mG} {a1 : Int32} (h_hh : isH hh) (hI : IC s) : ok (F_X2_isGuest hh s a1) PB := by
  have hR : RC true s s := RC_refl hI
  unfold F_X2_isGuest
  refine ok_b1 (T_X10_hasRow (isH_t h_hh 0 (by decide)) hR.1) (fun v_1 (hv_2 : PB v_1) => ?_)
  refine ok_pp hv_2 ?_
  exact ok_some hv_2
theorem T_X2_isSign {hh : Nat} {s : mG} {a1 : Int32} (h_hh : isH hh) (hI : IC s) : ok (F_X2_isSign hh s a1) PB := by
  have hR : RC true s s := RC_refl hI
  unfold F_X2_isSign
  refine ok_b1 (T_X10_hasRow (isH_t h_hh 4 (by decide)) hR.1) (fun v_1 (hv_2 : PB v_1) => ?_)
  refine ok_pp hv_2 ?_
  exact ok_some hv_2
theorem T_X2_keyOn {hh : Nat} {s : mG} {a1 : Int32} (h_hh : isH hh) (hI : IC s) : ok (F_X2_keyOn hh s a1) PT := by
  have hR : RC true s s := RC_refl hI
  unfold F_X2_keyOn
  unfold F_X2_keyOn_L2
  refine ok_whl (fun v => a1 = v.1 ∧ ¬ v.2 < 0) (fun v => mUp v.2) ⟨rfl, nn0⟩ (fun v hv => ?_)
  obtain ⟨x_2, x_3⟩ := v
  obtain ⟨rfl, rhn_4⟩ := hv
  have hn_4 : ¬ x_3 < 0 := rhn_4
  show ok (F_X2_keyOn_B2 hh s a1 x_3) _
  unfold F_X2_keyOn_B2
  refine ok_ite (fun h_5 => ?_) (fun h_6 => ?_)
  · exact ok_some (lp_inr (trivial))
  · refine ok_b1 (T_X10_at (isH_t h_hh 0 (by decide)) hR.1) (fun v_7 _ => ?_)
    refine ok_ite (fun h_9 => ?_) (fun h_10 => ?_)
    · exact ok_some (lp_inr (trivial))
    · exact ok_some (lp_inl ⟨rfl, (up_nn hn_4 (ge_t h_6))⟩ (up_t (ge_t h_6)))
theorem T_X2_hasKey {hh : Nat} {s : mG} {a1 : Int32} (h_hh : isH hh) (hI : IC s) : ok (F_X2_hasKey hh s a1) PB := by
  have hR : RC true s s := RC_refl hI
  unfold F_X2_hasKey
  refine ok_b1 (T_X2_keyOn h_hh hR.1) (fun v_1 _ => ?_)
  refine ok_ite (fun h_3 => ?_) (fun h_4 => ?_)
  · exact ok_some pb0
  · exact ok_some pb1
theorem T_X2_outSet {hh : Nat} {s : mG} (h_hh : isH hh) (hI : IC s) : ok (F_X2_outSet hh s) PT := by
  have hR : RC true s s := RC_refl hI
  unfold F_X2_outSet
  unfold F_X2_outSet_L4
  refine ok_whl (fun v => ¬ v.2 < 0) (fun v => mUp v.2) nn0 (fun v hv => ?_)
  obtain ⟨x_2, x_3⟩ := v
  have hn_4 : ¬ x_3 < 0 := hv
  show ok (F_X2_outSet_B4 hh s x_2 x_3) _
  unfold F_X2_outSet_B4
  refine ok_ite (fun h_5 => ?_) (fun h_6 => ?_)
  · exact ok_some (lp_inr (trivial))
  · refine ok_b1 (T_X2_isOut h_hh hR.1) (fun v_7 (hv_8 : PB v_7) => ?_)
    refine ok_ite (fun h_9 => ?_) (fun h_10 => ?_)
    · unfold F_X2_outSet_31
      exact ok_some (lp_inl (up_nn hn_4 (ge_t h_6)) (up_t (ge_t h_6)))
    · unfold F_X2_outSet_31
      exact ok_some (lp_inl (up_nn hn_4 (ge_t h_6)) (up_t (ge_t h_6)))
theorem T_X2_hookSet {hh : Nat} {s : mG} (h_hh : isH hh) (hI : IC s) : ok (F_X2_hookSet hh s) PT := by
  have hR : RC true s s := RC_refl hI
  unfold F_X2_hookSet
  unfold F_X2_hookSet_L4
  refine ok_whl (fun v => ¬ v.2 < 0) (fun v => mUp v.2) nn0 (fun v hv => ?_)
  obtain ⟨x_2, x_3⟩ := v
  have hn_4 : ¬ x_3 < 0 := hv
  show ok (F_X2_hookSet_B4 hh s x_2 x_3) _
  unfold F_X2_hookSet_B4
  refine ok_ite (fun h_5 => ?_) (fun h_6 => ?_)
  · exact ok_some (lp_inr (trivial))
  · refine ok_b1 (T_X2_hasKey h_hh hR.1) (fun v_7 (hv_8 : PB v_7) => ?_)
    refine ok_ite (fun h_9 => ?_) (fun h_10 => ?_)
    · unfold F_X2_hookSet_31
      exact ok_some (lp_inl (up_nn hn_4 (ge_t h_6)) (up_t (ge_t h_6)))
    · unfold F_X2_hookSet_31
      exact ok_some (lp_inl (up_nn hn_4 (ge_t h_6)) (up_t (ge_t h_6)))
theorem T_X2_keylessSet {hh : Nat} {s : mG} (h_hh : isH hh) (hI : IC s) : ok (F_X2_keylessSet hh s) PT := by
  have hR : RC true s s := RC_refl hI
  unfold F_X2_keylessSet
  unfold F_X2_keylessSet_L4
  refine ok_whl (fun v => ¬ v.2 < 0) (fun v => mUp v.2) nn0 (fun v hv => ?_)
  obtain ⟨x_2, x_3⟩ := v
  have hn_4 : ¬ x_3 < 0 := hv
  show ok (F_X2_keylessSet_B4 hh s x_2 x_3) _
  unfold F_X2_keylessSet_B4
  refine ok_ite (fun h_5 => ?_) (fun h_6 => ?_)
  · exact ok_some (lp_inr (trivial))
  · refine ok_b1 (T_X10_at (isH_t h_hh 0 (by decide)) hR.1) (fun v_7 _ => ?_)
    refine ok_ite (fun h_9 => ?_) (fun h_10 => ?_)
    · unfold F_X2_keylessSet_36
      exact ok_some (lp_inl (up_nn hn_4 (ge_t h_6)) (up_t (ge_t h_6)))
    · unfold F_X2_keylessSet_36
      exact ok_some (lp_inl (up_nn hn_4 (ge_t h_6)) (up_t (ge_t h_6)))
theorem T_X2_drawThousand {hh : Nat} {s : mG} (h_hh : isH hh) (hI : IC s) : ok (F_X2_drawThousand hh s) (fun τ => RC true s τ.2) := by
  have hR : RC true s s := RC_refl hI
  unfold F_X2_drawThousand
  extract_lets +onlyGivenNames s_1
  have hs_2 : RC true s s_1 := (RC_mh hR h_hh)
  clear_value s_1
  extract_lets +onlyGivenNames v_3
  clear_value v_3
  exact ok_some hs_2
theorem T_X2_write {hh : Nat} {a1 : Int32} {a2 : Int32} {a3 : Int32} {a4 : Int32} {s : mG} (h_hh : isH hh) (hI : IC s) : ok (F_X2_write hh a1 a2 a3 a4 s) (RC true s) := by
  have hR : RC true s s := RC_refl hI
  unfold F_X2_write
  refine ok_b1 (T_X10_isFull (isH_t h_hh 1 (by decide)) hR.1) (fun v_1 (hv_2 : PB v_1 ∧ (v_1 = 0 → s.1 (hh + 3) 3 < s.1 (hh + 3) 0)) => ?_)
  refine ok_ite (fun h_3 => ?_) (fun h_4 => ?_)
  · refine ok_b2 (ok_tr2 hR (T_X10_add (isH_t h_hh 1 (by decide)) hR.1)) (fun v_5 s_6 (hs_7 : RC true s s_6) => ?_)
    refine ok_b1 (ok_tr hs_7 (T_X10_put (isH_t h_hh 1 (by decide)) hs_7.1)) (fun s_8 (hs_9 : RC true s s_8) => ?_)
    refine ok_b1 (ok_tr hs_9 (T_X10_put (isH_t h_hh 1 (by decide)) hs_9.1)) (fun s_10 (hs_11 : RC true s s_10) => ?_)
    refine ok_b1 (ok_tr hs_11 (T_X10_put (isH_t h_hh 1 (by decide)) hs_11.1)) (fun s_12 (hs_13 : RC true s s_12) => ?_)
    refine ok_b1 (ok_tr hs_13 (T_X10_put (isH_t h_hh 1 (by decide)) hs_13.1)) (fun s_14 (hs_15 : RC true s s_14) => ?_)
    refine ok_b1 (ok_tr hs_15 (T_X10_put (isH_t h_hh 1 (by decide)) hs_15.1)) (fun s_16 (hs_17 : RC true s s_16) => ?_)
    exact ok_some hs_17
  · exact ok_some hR
theorem T_X2_clerkAt {hh : Nat} {s : mG} {a1 : Int32} (h_hh : isH hh) (hI : IC s) : ok (F_X2_clerkAt hh s a1) PT := by
  have hR : RC true s s := RC_refl hI
  unfold F_X2_clerkAt
  unfold F_X2_clerkAt_L2
  refine ok_whl (fun v => a1 = v.1 ∧ ¬ v.2 < 0) (fun v => mUp v.2) ⟨rfl, nn0⟩ (fun v hv => ?_)
  obtain ⟨x_6, x_7⟩ := v
  obtain ⟨rfl, rhn_8⟩ := hv
  have hn_8 : ¬ x_7 < 0 := rhn_8
  show ok (F_X2_clerkAt_B2 hh s a1 x_7) _
  unfold F_X2_clerkAt_B2
  refine ok_ite (fun h_9 => ?_) (fun h_10 => ?_)
  · exact ok_some (lp_inr (trivial))
  · refine ok_b1 (T_X10_at (isH_t h_hh 5 (by decide)) hR.1) (fun v_11 _ => ?_)
    extract_lets +onlyGivenNames v_13
    clear_value v_13
    refine ok_b1 (T_X10_at (isH_t h_hh 5 (by decide)) hR.1) (fun v_14 _ => ?_)
    refine ok_ite (fun h_16 => ?_) (fun h_17 => ?_)
    · refine ok_b1 (T_X10_at (isH_t h_hh 5 (by decide)) hR.1) (fun v_18 _ => ?_)
      refine ok_ite (fun h_20 => ?_) (fun h_21 => ?_)
      · unfold F_X2_clerkAt_73
        exact ok_some (lp_inl ⟨rfl, (up_nn hn_8 (ge_t h_10))⟩ (up_t (ge_t h_10)))
      · refine ok_b1 (T_X10_at (isH_t h_hh 5 (by decide)) hR.1) (fun v_22 _ => ?_)
        exact ok_some (lp_inr (trivial))
    · unfold F_X2_clerkAt_73
      exact ok_some (lp_inl ⟨rfl, (up_nn hn_8 (ge_t h_10))⟩ (up_t (ge_t h_10)))
theorem T_X4_takeFrom {mo : Nat} {a1 : Nat} {s : mG} (h_mo : isM mo) (h_a1 : isH a1) (hI : IC s) : ok (F_X4_takeFrom mo a1 s) (RC true s) := by
  have hR : RC true s s := RC_refl hI
  unfold F_X4_takeFrom
  refine ok_b1 (ok_tr hR (T_X10_copyFrom h_mo.2 (isH_t h_a1 0 (by decide)) hR.1)) (fun s_1 (hs_2 : RC true s s_1) => ?_)
  extract_lets +onlyGivenNames s_3
  have hs_4 : RC true s s_3 := (RC_mm hs_2 h_mo)
  clear_value s_3
  extract_lets +onlyGivenNames s_5
  have hs_6 : RC true s s_5 := (RC_mm hs_4 h_mo)
  clear_value s_5
  extract_lets +onlyGivenNames s_7
  have hs_8 : RC true s s_7 := (RC_mm hs_6 h_mo)
  clear_value s_7
  exact ok_some hs_8
theorem T_X4_giveTo {mo : Nat} {a1 : Nat} {s : mG} (h_mo : isM mo) (h_a1 : isH a1) (hI : IC s) : ok (F_X4_giveTo mo a1 s) (RC true s) := by
  have hR : RC true s s := RC_refl hI
  unfold F_X4_giveTo
  refine ok_b1 (ok_tr hR (T_X10_copyFrom (isH_t h_a1 0 (by decide)) h_mo.2 hR.1)) (fun s_1 (hs_2 : RC true s s_1) => ?_)
  extract_lets +onlyGivenNames s_3
  have hs_4 : RC true s s_3 := (RC_rows hs_2 (isH_t h_a1 1 (by decide)) (by omega))
  clear_value s_3
  extract_lets +onlyGivenNames s_5
  have hs_6 : RC true s s_5 := (RC_mh hs_4 h_a1)
  clear_value s_5
  extract_lets +onlyGivenNames s_7
  have hs_8 : RC true s s_7 := (RC_mh hs_6 h_a1)
  clear_value s_7
  exact ok_some hs_8
theorem T_X5_forget {s : mG} (hI : IC s) : ok (F_X5_forget s) (RC true s) := by
  have hR : RC true s s := RC_refl hI
  unfold F_X5_forget
  extract_lets +onlyGivenNames s_1
  have hs_2 : RC true s s_1 := (RC_mu hR (by decide))
  clear_value s_1
  exact ok_some hs_2
/-! X5_momentAt: by hand -/
theorem T_X5_momentAt {s : mG} {a1 : Int32} (hI : IC s) : ok (F_X5_momentAt s a1) (fun o => ∀ k, o = some k → isM k) := by
  have h : ∃ o, F_X5_momentAt s a1 = some o := by
    unfold F_X5_momentAt F_X5_momentAt_22
    by_cases h1 : a1 < 0
    · rw [if_pos h1]; exact ⟨_, rfl⟩
    · rw [if_neg h1]
      by_cases h2 : cn 6 ≤ a1
      · rw [if_pos h2]; exact ⟨_, rfl⟩
      · rw [if_neg h2, if_neg (idx_ok (by decide) h1 h2)]; exact ⟨_, rfl⟩
  obtain ⟨o, h⟩ := h
  refine ⟨o, h, fun k hk => ?_⟩
  subst hk
  exact momM h
theorem T_X5_keep {a1 : Nat} {s : mG} (h_a1 : isH a1) (hI : IC s) : ok (F_X5_keep a1 s) (RC true s) := by
  have hR : RC true s s := RC_refl hI
  unfold F_X5_keep
  refine ok_bo (T_X5_momentAt hR.1) (fun _ => ?_) (fun o_2 h_1 => ?_)
  · exact ok_some hR
  · refine ok_b1 (ok_tr hR (T_X4_takeFrom (h_1 _ rfl) h_a1 hR.1)) (fun s_3 (hs_4 : RC true s s_3) => ?_)
    extract_lets +onlyGivenNames s_5
    have hs_6 : RC true s s_5 := (RC_mu hs_4 (by decide))
    clear_value s_5
    extract_lets +onlyGivenNames s_7
    have hs_8 : RC true s s_7 := (RC_mu hs_6 (by decide))
    clear_value s_7
    exact ok_some hs_8
theorem T_X5_giveBack {a1 : Nat} {s : mG} (h_a1 : isH a1) (hI : IC s) : ok (F_X5_giveBack a1 s) (fun τ => PB τ.1 ∧ RC true s τ.2) := by
  have hR : RC true s s := RC_refl hI
  unfold F_X5_giveBack
  extract_lets +onlyGivenNames v_1
  clear_value v_1
  refine ok_bo (T_X5_momentAt hR.1) (fun _ => ?_) (fun o_3 h_2 => ?_)
  · refine ok_ite (fun h_4 => ?_) (fun h_5 => ?_)
    · unfold F_X5_giveBack_30
      exact ok_some ⟨pb0, hR⟩
    · unfold F_X5_giveBack_30
      exact ok_some ⟨pb0, hR⟩
  · refine ok_ite (fun h_6 => ?_) (fun h_7 => ?_)
    · unfold F_X5_giveBack_30
      exact ok_some ⟨pb0, hR⟩
    · refine ok_b1 (ok_tr hR (T_X4_giveTo (h_2 _ rfl) h_a1 hR.1)) (fun s_8 (hs_9 : RC true s s_8) => ?_)
      extract_lets +onlyGivenNames s_10
      have hs_11 : RC true s s_10 := (RC_mu hs_9 (by decide))
      clear_value s_10
      extract_lets +onlyGivenNames s_12
      have hs_13 : RC true s s_12 := (RC_mu hs_11 (by decide))
      clear_value s_12
      exact ok_some ⟨pb1, hs_13⟩
theorem T_X6_ask {a1 : Int32} {s : mG} (hI : IC s) : ok (F_X6_ask a1 s) (RC true s) := by
  have hR : RC true s s := RC_refl hI
  unfold F_X6_ask
  refine ok_b1 (ok_tr hR (T_X3_face hR.1)) (fun s_1 (hs_2 : RC true s s_1) => ?_)
  unfold F_X6_ask_L10
  refine ok_whl (fun v => RC true s v.2 ∧ ¬ v.1 < 0) (fun v => mUp v.1) ⟨hs_2, nn0⟩ (fun v hv => ?_)
  obtain ⟨x_6, s_7⟩ := v
  obtain ⟨rhs_8, rhn_9⟩ := hv
  have hs_8 : RC true s s_7 := rhs_8
  have hn_9 : ¬ x_6 < 0 := rhn_9
  show ok (F_X6_ask_B10 x_6 s_7) _
  unfold F_X6_ask_B10
  refine ok_ite (fun h_10 => ?_) (fun h_11 => ?_)
  · exact ok_some (lp_inr (hs_8))
  · refine ok_b2 (ok_tr2 hs_8 (T_X3_tells hs_8.1)) (fun v_12 s_13 (hs_14 : RC true s s_13) => ?_)
    refine ok_nn (idx_ok (by decide) hn_9 h_11) ?_
    extract_lets +onlyGivenNames s_15
    have hs_16 : RC true s s_15 := (RC_mw hs_14 (by decide))
    clear_value s_15
    exact ok_some (lp_inl ⟨hs_16, (up_nn hn_9 (ge_t h_11))⟩ (up_t (ge_t h_11)))
theorem T_X6_isDrawn {a1 : Int32} {s : mG} (hI : IC s) : ok (F_X6_isDrawn a1 s) (fun τ => PB τ.1 ∧ RC true s τ.2) := by
  have hR : RC true s s := RC_refl hI
  unfold F_X6_isDrawn
  refine ok_b2 (ok_tr2 hR (T_X2_drawThousand isH_1 hR.1)) (fun v_1 s_2 (hs_3 : RC true s s_2) => ?_)
  refine ok_b1 (T_X11_cell sh72 hs_3.1) (fun v_4 _ => ?_)
  refine ok_ite (fun h_6 => ?_) (fun h_7 => ?_)
  · exact ok_some ⟨pb0, hs_3⟩
  · exact ok_some ⟨pb1, hs_3⟩
theorem T_X6_hangKey {a1 : Int32} {s : mG} (hI : IC s) : ok (F_X6_hangKey a1 s) (RC true s) := by
  have hR : RC true s s := RC_refl hI
  unfold F_X6_hangKey
  refine ok_b2 (ok_tr3 hR (T_X6_isDrawn hR.1)) (fun v_1 s_2 (hs_3 : PB v_1 ∧ RC true s s_2) => ?_)
  refine ok_ite (fun h_4 => ?_) (fun h_5 => ?_)
  · unfold F_X6_hangKey_51
    refine ok_b1 (T_X2_hasKey isH_1 hs_3.2.1) (fun v_6 (hv_7 : PB v_6) => ?_)
    refine ok_ite (fun h_8 => ?_) (fun h_9 => ?_)
    · refine ok_b1 (ok_tr hs_3.2 (T_X10_put isT_2 hs_3.2.1)) (fun s_10 (hs_11 : RC true s s_10) => ?_)
      exact ok_some hs_11
    · exact ok_some hs_3.2
  · refine ok_ite (fun h_12 => ?_) (fun h_13 => ?_)
    · unfold F_X6_hangKey_33
      refine ok_b1 (T_X2_hasKey isH_1 hs_3.2.1) (fun v_14 (hv_15 : PB v_14) => ?_)
      refine ok_ite (fun h_16 => ?_) (fun h_17 => ?_)
      · unfold F_X6_hangKey_50
        unfold F_X6_hangKey_51
        refine ok_b1 (T_X2_hasKey isH_1 hs_3.2.1) (fun v_18 (hv_19 : PB v_18) => ?_)
        refine ok_ite (fun h_20 => ?_) (fun h_21 => ?_)
        · refine ok_b1 (ok_tr hs_3.2 (T_X10_put isT_2 hs_3.2.1)) (fun s_22 (hs_23 : RC true s s_22) => ?_)
          exact ok_some hs_23
        · exact ok_some hs_3.2
      · unfold F_X6_hangKey_50
        unfold F_X6_hangKey_51
        refine ok_b1 (T_X2_hasKey isH_1 hs_3.2.1) (fun v_24 (hv_25 : PB v_24) => ?_)
        refine ok_ite (fun h_26 => ?_) (fun h_27 => ?_)
        · refine ok_b1 (ok_tr hs_3.2 (T_X10_put isT_2 hs_3.2.1)) (fun s_28 (hs_29 : RC true s s_28) => ?_)
          exact ok_some hs_29
        · exact ok_some hs_3.2
    · unfold F_X6_hangKey_33
      refine ok_b1 (T_X2_hasKey isH_1 hs_3.2.1) (fun v_30 (hv_31 : PB v_30) => ?_)
      refine ok_ite (fun h_32 => ?_) (fun h_33 => ?_)
      · unfold F_X6_hangKey_50
        unfold F_X6_hangKey_51
        refine ok_b1 (T_X2_hasKey isH_1 hs_3.2.1) (fun v_34 (hv_35 : PB v_34) => ?_)
        refine ok_ite (fun h_36 => ?_) (fun h_37 => ?_)
        · refine ok_b1 (ok_tr hs_3.2 (T_X10_put isT_2 hs_3.2.1)) (fun s_38 (hs_39 : RC true s s_38) => ?_)
          exact ok_some hs_39
        · exact ok_some hs_3.2
      · unfold F_X6_hangKey_50
        unfold F_X6_hangKey_51
        refine ok_b1 (T_X2_hasKey isH_1 hs_3.2.1) (fun v_40 (hv_41 : PB v_40) => ?_)
        refine ok_ite (fun h_42 => ?_) (fun h_43 => ?_)
        · refine ok_b1 (ok_tr hs_3.2 (T_X10_put isT_2 hs_3.2.1)) (fun s_44 (hs_45 : RC true s s_44) => ?_)
          exact ok_some hs_45
        · exact ok_some hs_3.2
theorem T_X6_goes {a1 : Int32} {s : mG} (hI : IC s) : ok (F_X6_goes a1 s) (fun τ => PB τ.1 ∧ RC true s τ.2) := by
  have hR : RC true s s := RC_refl hI
  unfold F_X6_goes
  refine ok_b2 (ok_tr3 hR (T_X6_isDrawn hR.1)) (fun v_1 s_2 (hs_3 : PB v_1 ∧ RC true s s_2) => ?_)
  refine ok_ite (fun h_4 => ?_) (fun h_5 => ?_)
  · exact ok_some ⟨pb0, hs_3.2⟩
  · refine ok_b1 (ok_tr hs_3.2 (T_X10_put isT_2 hs_3.2.1)) (fun s_6 (hs_7 : RC true s s_6) => ?_)
    refine ok_b2 (ok_tr3 hs_7 (T_X6_isDrawn hs_7.1)) (fun v_8 s_9 (hs_10 : PB v_8 ∧ RC true s s_9) => ?_)
    refine ok_ite (fun h_11 => ?_) (fun h_12 => ?_)
    · unfold F_X6_goes_36
      refine ok_b2 (ok_tr3 hs_10.2 (T_X6_isDrawn hs_10.2.1)) (fun v_13 s_14 (hs_15 : PB v_13 ∧ RC true s s_14) => ?_)
      refine ok_ite (fun h_16 => ?_) (fun h_17 => ?_)
      · refine ok_b1 (ok_tr hs_15.2 (T_X6_hangKey hs_15.2.1)) (fun s_18 (hs_19 : RC true s s_18) => ?_)
        unfold F_X6_goes_50
        refine ok_b1 (T_X2_clerkAt isH_1 hs_19.1) (fun v_20 _ => ?_)
        refine ok_b1 (ok_tr hs_19 (T_X2_write isH_1 hs_19.1)) (fun s_22 (hs_23 : RC true s s_22) => ?_)
        exact ok_some ⟨pb1, hs_23⟩
      · unfold F_X6_goes_50
        refine ok_b1 (T_X2_clerkAt isH_1 hs_15.2.1) (fun v_24 _ => ?_)
        refine ok_b1 (ok_tr hs_15.2 (T_X2_write isH_1 hs_15.2.1)) (fun s_26 (hs_27 : RC true s s_26) => ?_)
        exact ok_some ⟨pb1, hs_27⟩
    · unfold F_X6_goes_36
      refine ok_b2 (ok_tr3 hs_10.2 (T_X6_isDrawn hs_10.2.1)) (fun v_28 s_29 (hs_30 : PB v_28 ∧ RC true s s_29) => ?_)
      refine ok_ite (fun h_31 => ?_) (fun h_32 => ?_)
      · refine ok_b1 (ok_tr hs_30.2 (T_X6_hangKey hs_30.2.1)) (fun s_33 (hs_34 : RC true s s_33) => ?_)
        unfold F_X6_goes_50
        refine ok_b1 (T_X2_clerkAt isH_1 hs_34.1) (fun v_35 _ => ?_)
        refine ok_b1 (ok_tr hs_34 (T_X2_write isH_1 hs_34.1)) (fun s_37 (hs_38 : RC true s s_37) => ?_)
        exact ok_some ⟨pb1, hs_38⟩
      · unfold F_X6_goes_50
        refine ok_b1 (T_X2_clerkAt isH_1 hs_30.2.1) (fun v_39 _ => ?_)
        refine ok_b1 (ok_tr hs_30.2 (T_X2_write isH_1 hs_30.2.1)) (fun s_41 (hs_42 : RC true s s_41) => ?_)
        exact ok_some ⟨pb1, hs_42⟩
theorem T_X6_comes {a1 : Int32} {s : mG} (hI : IC s) : ok (F_X6_comes a1 s) (fun τ => PB τ.1 ∧ RC true s τ.2) := by
  have hR : RC true s s := RC_refl hI
  unfold F_X6_comes
  refine ok_b2 (ok_tr3 hR (T_X6_isDrawn hR.1)) (fun v_1 s_2 (hs_3 : PB v_1 ∧ RC true s s_2) => ?_)
  refine ok_ite (fun h_4 => ?_) (fun h_5 => ?_)
  · exact ok_some ⟨pb0, hs_3.2⟩
  · refine ok_b1 (ok_tr hs_3.2 (T_X10_put isT_2 hs_3.2.1)) (fun s_6 (hs_7 : RC true s s_6) => ?_)
    refine ok_b1 (ok_tr hs_7 (T_X10_put isT_2 hs_7.1)) (fun s_8 (hs_9 : RC true s s_8) => ?_)
    refine ok_b2 (ok_tr3 hs_9 (T_X6_isDrawn hs_9.1)) (fun v_10 s_11 (hs_12 : PB v_10 ∧ RC true s s_11) => ?_)
    refine ok_ite (fun h_13 => ?_) (fun h_14 => ?_)
    · unfold F_X6_comes_49
      refine ok_b1 (T_X2_clerkAt isH_1 hs_12.2.1) (fun v_15 _ => ?_)
      refine ok_b1 (ok_tr hs_12.2 (T_X2_write isH_1 hs_12.2.1)) (fun s_17 (hs_18 : RC true s s_17) => ?_)
      exact ok_some ⟨pb1, hs_18⟩
    · unfold F_X6_comes_49
      refine ok_b1 (T_X2_clerkAt isH_1 hs_12.2.1) (fun v_19 _ => ?_)
      refine ok_b1 (ok_tr hs_12.2 (T_X2_write isH_1 hs_12.2.1)) (fun s_21 (hs_22 : RC true s s_21) => ?_)
      exact ok_some ⟨pb1, hs_22⟩
theorem T_X6_passHour {s : mG} (hI : IC s) : ok (F_X6_passHour s) (fun τ => RC true s τ.2) := by
  have hR : RC true s s := RC_refl hI
  unfold F_X6_passHour
  unfold F_X6_passHour_L4
  refine ok_whl (fun v => RC true s v.2.2 ∧ ¬ v.2.1 < 0) (fun v => mUp v.2.1) ⟨hR, nn0⟩ (fun v hv => ?_)
  obtain ⟨x_24, x_25, s_26⟩ := v
  obtain ⟨rhs_27, rhn_28⟩ := hv
  have hs_27 : RC true s s_26 := rhs_27
  have hn_28 : ¬ x_25 < 0 := rhn_28
  show ok (F_X6_passHour_B4 x_24 x_25 s_26) _
  unfold F_X6_passHour_B4
  refine ok_ite (fun h_29 => ?_) (fun h_30 => ?_)
  · extract_lets +onlyGivenNames s_31
    have hs_32 : RC true s s_31 := (RC_mu hs_27 (by decide))
    clear_value s_31
    exact ok_some (lp_inr (hs_32))
  · refine ok_b1 (ok_tr hs_27 (T_X6_ask hs_27.1)) (fun s_33 (hs_34 : RC true s s_33) => ?_)
    refine ok_b1 (T_X2_isOut isH_1 hs_34.1) (fun v_35 (hv_36 : PB v_35) => ?_)
    refine ok_ite (fun h_37 => ?_) (fun h_38 => ?_)
    · refine ok_b2 (ok_tr3 hs_34 (T_X6_goes hs_34.1)) (fun v_39 s_40 (hs_41 : PB v_39 ∧ RC true s s_40) => ?_)
      unfold F_X6_passHour_47
      refine ok_ite (fun h_42 => ?_) (fun h_43 => ?_)
      · unfold F_X6_passHour_58
        refine ok_b1 (T_X10_at isT_2 hs_41.2.1) (fun v_44 _ => ?_)
        extract_lets +onlyGivenNames v_46
        clear_value v_46
        refine ok_ite (fun h_47 => ?_) (fun h_48 => ?_)
        · unfold F_X6_passHour_101
          refine ok_b1 (ok_tr hs_41.2 (T_X10_put isT_2 hs_41.2.1)) (fun s_49 (hs_50 : RC true s s_49) => ?_)
          exact ok_some (lp_inl ⟨hs_50, (up_nn hn_28 (ge_t h_30))⟩ (up_t (ge_t h_30)))
        · unfold F_X6_passHour_101
          refine ok_b1 (ok_tr hs_41.2 (T_X10_put isT_2 hs_41.2.1)) (fun s_51 (hs_52 : RC true s s_51) => ?_)
          exact ok_some (lp_inl ⟨hs_52, (up_nn hn_28 (ge_t h_30))⟩ (up_t (ge_t h_30)))
      · unfold F_X6_passHour_58
        refine ok_b1 (T_X10_at isT_2 hs_41.2.1) (fun v_53 _ => ?_)
        extract_lets +onlyGivenNames v_55
        clear_value v_55
        refine ok_ite (fun h_56 => ?_) (fun h_57 => ?_)
        · unfold F_X6_passHour_101
          refine ok_b1 (ok_tr hs_41.2 (T_X10_put isT_2 hs_41.2.1)) (fun s_58 (hs_59 : RC true s s_58) => ?_)
          exact ok_some (lp_inl ⟨hs_59, (up_nn hn_28 (ge_t h_30))⟩ (up_t (ge_t h_30)))
        · unfold F_X6_passHour_101
          refine ok_b1 (ok_tr hs_41.2 (T_X10_put isT_2 hs_41.2.1)) (fun s_60 (hs_61 : RC true s s_60) => ?_)
          exact ok_some (lp_inl ⟨hs_61, (up_nn hn_28 (ge_t h_30))⟩ (up_t (ge_t h_30)))
    · refine ok_b2 (ok_tr3 hs_34 (T_X6_comes hs_34.1)) (fun v_62 s_63 (hs_64 : PB v_62 ∧ RC true s s_63) => ?_)
      unfold F_X6_passHour_47
      refine ok_ite (fun h_65 => ?_) (fun h_66 => ?_)
      · unfold F_X6_passHour_58
        refine ok_b1 (T_X10_at isT_2 hs_64.2.1) (fun v_67 _ => ?_)
        extract_lets +onlyGivenNames v_69
        clear_value v_69
        refine ok_ite (fun h_70 => ?_) (fun h_71 => ?_)
        · unfold F_X6_passHour_101
          refine ok_b1 (ok_tr hs_64.2 (T_X10_put isT_2 hs_64.2.1)) (fun s_72 (hs_73 : RC true s s_72) => ?_)
          exact ok_some (lp_inl ⟨hs_73, (up_nn hn_28 (ge_t h_30))⟩ (up_t (ge_t h_30)))
        · unfold F_X6_passHour_101
          refine ok_b1 (ok_tr hs_64.2 (T_X10_put isT_2 hs_64.2.1)) (fun s_74 (hs_75 : RC true s s_74) => ?_)
          exact ok_some (lp_inl ⟨hs_75, (up_nn hn_28 (ge_t h_30))⟩ (up_t (ge_t h_30)))
      · unfold F_X6_passHour_58
        refine ok_b1 (T_X10_at isT_2 hs_64.2.1) (fun v_76 _ => ?_)
        extract_lets +onlyGivenNames v_78
        clear_value v_78
        refine ok_ite (fun h_79 => ?_) (fun h_80 => ?_)
        · unfold F_X6_passHour_101
          refine ok_b1 (ok_tr hs_64.2 (T_X10_put isT_2 hs_64.2.1)) (fun s_81 (hs_82 : RC true s s_81) => ?_)
          exact ok_some (lp_inl ⟨hs_82, (up_nn hn_28 (ge_t h_30))⟩ (up_t (ge_t h_30)))
        · unfold F_X6_passHour_101
          refine ok_b1 (ok_tr hs_64.2 (T_X10_put isT_2 hs_64.2.1)) (fun s_83 (hs_84 : RC true s s_83) => ?_)
          exact ok_some (lp_inl ⟨hs_84, (up_nn hn_28 (ge_t h_30))⟩ (up_t (ge_t h_30)))
theorem T_X7_hasSpaceFor {s : mG} {a1 : Int32} (hI : IC s) : ok (F_X7_hasSpaceFor s a1) PB := by
  have hR : RC true s s := RC_refl hI
  unfold F_X7_hasSpaceFor
  refine ok_ite (fun h_1 => ?_) (fun h_2 => ?_)
  · exact ok_some pb0
  · exact ok_some pb1
/-! X7_takeFour: by hand -/
theorem T_X7_takeFour {a1 : Int32} {s : mG} (hI : IC s) : ok (F_X7_takeFour a1 s) (fun s' => RC false s s' ∧ s'.1 55 9 = s.1 55 9 + ci 4) := by
  unfold F_X7_takeFour F_X7_takeFour_L3
  refine ok_whl (fun v => RC false s v.2.2 ∧ ∃ k : Nat, k ≤ 4 ∧ v.2.1.toInt = 24 - 8 * (k : Int) ∧ v.2.2.1 55 9 = s.1 55 9 + cn k) (fun v => mDn v.2.1) ⟨RC_refl hI, 0, by decide, show (c8 24).toInt = _ by decide, show s.1 55 9 = s.1 55 9 + cn 0 by rw [show cn 0 = 0 by decide, Int32.add_zero]⟩ (fun v hv => ?_)
  obtain ⟨x1, x2, s1⟩ := v
  obtain ⟨rs1, k, h1, h2, h3⟩ := hv
  have hs1 : RC false s s1 := rs1
  replace h2 : x2.toInt = 24 - 8 * (k : Int) := h2
  replace h3 : s1.1 55 9 = s.1 55 9 + cn k := h3
  show ok (F_X7_takeFour_B3 x1 x2 s1) _
  unfold F_X7_takeFour_B3
  refine ok_ite (fun h => ?_) (fun h => ?_)
  · rw [t_neg_iff] at h
    have hk : k = 4 := by omega
    subst hk
    exact ok_some (lp_inr ⟨hs1, h3⟩)
  · have h0 := t_nn h
    refine ok_b1 (T_X11_put sh64 (by decide) hs1.1) (fun s3 (hs3 : RC true s1 s3) => ?_)
    extract_lets +onlyGivenNames s4
    have e4 : s4.1 55 9 = s3.1 55 9 + ci 1 := mu_sameP
    have hs4 : RC false s s4 := RC_cell (RC_weak (RC_tr hs1 hs3)) (by decide) (by decide) (fun q => absurd q (by decide))
    clear_value s4
    have e5 : s4.1 55 9 = s.1 55 9 + cn (k + 1) := by
      rw [e4, hs3.2.2.2 rfl, h3, Int32.add_assoc]
      have hk : k = 0 ∨ k = 1 ∨ k = 2 ∨ k = 3 := by omega
      rcases hk with rfl | rfl | rfl | rfl <;> rfl
    exact ok_some (lp_inl ⟨hs4, k + 1, by omega, show (x2 + ci (-8)).toInt = _ by rw [t_add (by rw [t_cm8]; omega) (by rw [t_cm8]; omega), t_cm8]; omega, e5⟩ (dn8_t h))
theorem T_X7_stepOn {s : mG} (hI : IC s) : ok (F_X7_stepOn s) (RC true s) := by
  have hR : RC true s s := RC_refl hI
  unfold F_X7_stepOn
  extract_lets +onlyGivenNames s_1
  have hs_2 : RC true s s_1 := (RC_mu hR (by decide))
  clear_value s_1
  refine ok_b1 (T_X10_at isT_65 hs_2.1) (fun v_3 _ => ?_)
  extract_lets +onlyGivenNames s_5
  have hs_6 : RC true s s_5 := (RC_mu hs_2 (by decide))
  clear_value s_5
  refine ok_b1 (T_X10_at isT_65 hs_6.1) (fun v_7 _ => ?_)
  extract_lets +onlyGivenNames s_9
  have hs_10 : RC true s s_9 := (RC_mu hs_6 (by decide))
  clear_value s_9
  refine ok_b1 (T_X10_at isT_65 hs_10.1) (fun v_11 _ => ?_)
  extract_lets +onlyGivenNames s_13
  have hs_14 : RC true s s_13 := (RC_mu hs_10 (by decide))
  clear_value s_13
  exact ok_some hs_14
theorem T_X7_isBlank {s : mG} {a1 : Int32} (hI : IC s) : ok (F_X7_isBlank s a1) PB := by
  have hR : RC true s s := RC_refl hI
  unfold F_X7_isBlank
  refine ok_ite (fun h_1 => ?_) (fun h_2 => ?_)
  · unfold F_X7_isBlank_12
    exact ok_some pb1
  · refine ok_ite (fun h_3 => ?_) (fun h_4 => ?_)
    · unfold F_X7_isBlank_12
      exact ok_some pb1
    · exact ok_some pb0
theorem T_X7_skipBlanks {s : mG} (hI : IC s) : ok (F_X7_skipBlanks s) (fun τ => PB τ.1 ∧ RC true s τ.2) := by
  have hR : RC true s s := RC_refl hI
  unfold F_X7_skipBlanks
  unfold F_X7_skipBlanks_L0
  refine ok_whl (fun v => RC true s v) (fun v => mUp (v.1 55 13)) hR (fun s_5 hv => ?_)
  have hs_6 : RC true s s_5 := hv
  show ok (F_X7_skipBlanks_B0 s_5) _
  unfold F_X7_skipBlanks_B0
  refine ok_ite (fun h_7 => ?_) (fun h_8 => ?_)
  · refine ok_b1r ?_
    unfold F_X7_skipBlanks_41
    refine ok_ite (fun h_9 => ?_) (fun h_10 => ?_)
    · exact ok_some ⟨pb0, hs_6⟩
    · exact ok_some ⟨pb1, hs_6⟩
  · refine ok_b1 (T_X11_cell sh64 hs_6.1) (fun v_11 _ => ?_)
    refine ok_b1 (T_X7_isBlank hs_6.1) (fun v_13 (hv_14 : PB v_13) => ?_)
    refine ok_ite (fun h_15 => ?_) (fun h_16 => ?_)
    · refine ok_b1r ?_
      unfold F_X7_skipBlanks_41
      refine ok_ite (fun h_17 => ?_) (fun h_18 => ?_)
      · exact ok_some ⟨pb0, hs_6⟩
      · exact ok_some ⟨pb1, hs_6⟩
    · extract_lets +onlyGivenNames s_19
      have hm_21 : mUp (s_19.1 55 13) < mUp (s_5.1 55 13) := by
        rw [show s_19.1 55 13 = s_5.1 55 13 + ci 1 from mu_sameP]
        exact up_t (ge_t h_8)
      have hs_20 : RC true s s_19 := (RC_mu hs_6 (by decide))
      clear_value s_19
      exact ok_some (lp_inl hs_20 hm_21)
end
