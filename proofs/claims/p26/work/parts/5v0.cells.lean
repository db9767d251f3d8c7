noncomputable section
/-! THE REFERENCE'S CELLS 15, 22, 24 of row 88 stay -/
def KQw (z s : mG) : Prop := s.1 88 15 = z.1 88 15 ∧ s.1 88 22 = z.1 88 22 ∧ s.1 88 24 = z.1 88 24
theorem kqw0 {s : mG} : KQw s s := ⟨rfl, rfl, rfl⟩
theorem KQw_mu {z s : mG} {j l : Nat} {w : Int32} (h : KQw z s) (d : 88 ≠ j ∨ (l ≠ 15 ∧ l ≠ 22 ∧ l ≠ 24)) : KQw z (mu s.1 j l w, s.2) :=
  ⟨(mu_cell (d.elim Or.inl (fun q => Or.inr (Ne.symm q.1)))).trans h.1, (mu_cell (d.elim Or.inl (fun q => Or.inr (Ne.symm q.2.1)))).trans h.2.1, (mu_cell (d.elim Or.inl (fun q => Or.inr (Ne.symm q.2.2)))).trans h.2.2⟩
theorem QQ_X12_forgets {z : mG} {s : mG} (h : KQw z s) : pk (F_X12_forgets s) (fun τ => KQw z τ) := by
  unfold F_X12_forgets
  extract_lets +onlyGivenNames s_1
  have h_2 : KQw z s_1 := KQw_mu h (Or.inr (by decide))
  clear_value s_1
  exact pk_some h_2
theorem QQ_X12_state {z : mG} {a1 : Int32} {s : mG} (h : KQw z s) : pk (F_X12_state a1 s) (fun τ => KQw z τ.2) := by
  unfold F_X12_state
  extract_lets +onlyGivenNames s_1
  have h_2 : KQw z s_1 := KQw_mu h (Or.inl (by decide))
  clear_value s_1
  refine pk_b1 (QQ_X12_forgets h_2) (fun s_3 (h_4 : KQw z s_3) => ?_)
  exact pk_some h_4
theorem QQ_X12_draw {z : mG} {a1 : Int32} {s : mG} (h : KQw z s) : pk (F_X12_draw a1 s) (fun τ => KQw z τ.2) := by
  unfold F_X12_draw
  extract_lets +onlyGivenNames s_1
  have h_2 : KQw z s_1 := KQw_mu h (Or.inl (by decide))
  clear_value s_1
  refine pk_nn ?_
  extract_lets +onlyGivenNames v_3
  clear_value v_3
  exact pk_some h_2
theorem QQ_X12_guest_31 {z : mG} {s : mG} (h : KQw z s) : pk (F_X12_guest_31 s) (fun τ => KQw z τ.2) := by
  unfold F_X12_guest_31
  exact pk_some h
theorem QQ_X12_guest_B94 {z : mG} {x3 : Int32} {x4 : Int32} {s : mG} (h : KQw z s) : pk (F_X12_guest_B94 x3 x4 s) (se (fun τ => KQw z τ.2.2) (fun τ => KQw z τ.2)) := by
  unfold F_X12_guest_B94
  refine pk_ite ?_ ?_
  · extract_lets +onlyGivenNames s_1
    have h_2 : KQw z s_1 := KQw_mu h (Or.inl (by decide))
    clear_value s_1
    refine pk_b1 (QQ_X12_forgets h_2) (fun s_3 (h_4 : KQw z s_3) => ?_)
    exact pk_some h_4
  · refine pk_nn ?_
    extract_lets +onlyGivenNames s_5
    have h_6 : KQw z s_5 := KQw_mu h (Or.inl (by decide))
    clear_value s_5
    exact pk_some h_6
theorem QQ_X12_guest_L94 {z : mG} {x3 : Int32} {x4 : Int32} {s : mG} (h : KQw z s) : pk (F_X12_guest_L94 x3 x4 s) (fun τ => KQw z τ.2) := by
  unfold F_X12_guest_L94
  refine pk_whl (fun v => KQw z v.2.2) h (fun v hv => ?_)
  obtain ⟨y0, y1, y2⟩ := v
  exact QQ_X12_guest_B94 hv
theorem QQ_X12_guest {z : mG} {a1 : Int32} {a2 : Int32} {s : mG} (h : KQw z s) : pk (F_X12_guest a1 a2 s) (fun τ => KQw z τ.2) := by
  unfold F_X12_guest
  refine pk_b1 pk_top (fun _ _ => ?_)
  refine pk_ite ?_ ?_
  · exact (QQ_X12_guest_31 h)
  · refine pk_b1 pk_top (fun _ _ => ?_)
    refine pk_ite ?_ ?_
    · exact (QQ_X12_guest_31 h)
    · refine pk_ite ?_ ?_
      · exact (QQ_X12_guest_31 h)
      · refine pk_nn ?_
        extract_lets +onlyGivenNames s_1
        have h_2 : KQw z s_1 := KQw_mu h (Or.inl (by decide))
        clear_value s_1
        refine pk_nn ?_
        extract_lets +onlyGivenNames s_3
        have h_4 : KQw z s_3 := KQw_mu h_2 (Or.inl (by decide))
        clear_value s_3
        refine pk_nn ?_
        extract_lets +onlyGivenNames s_5
        have h_6 : KQw z s_5 := KQw_mu h_4 (Or.inl (by decide))
        clear_value s_5
        refine pk_nn ?_
        extract_lets +onlyGivenNames s_7
        have h_8 : KQw z s_7 := KQw_mu h_6 (Or.inl (by decide))
        clear_value s_7
        refine pk_nn ?_
        extract_lets +onlyGivenNames s_9
        have h_10 : KQw z s_9 := KQw_mu h_8 (Or.inl (by decide))
        clear_value s_9
        exact (QQ_X12_guest_L94 h_10)
theorem QQ_X12_set_110 {z : mG} {s : mG} (h : KQw z s) : pk (F_X12_set_110 s) (fun τ => KQw z τ.2) := by
  unfold F_X12_set_110
  refine pk_b1 (QQ_X12_forgets h) (fun s_1 (h_2 : KQw z s_1) => ?_)
  exact pk_some h_2
theorem QQ_X12_set_92 {z : mG} {s : mG} (h : KQw z s) : pk (F_X12_set_92 s) (fun τ => KQw z τ.2) := by
  unfold F_X12_set_92
  exact pk_some h
theorem QQ_X12_set {z : mG} {a1 : Int32} {a2 : Int32} {a3 : Int32} {s : mG} (h : KQw z s) : pk (F_X12_set a1 a2 a3 s) (fun τ => KQw z τ.2) := by
  unfold F_X12_set
  refine pk_ite ?_ ?_
  · refine pk_b1 pk_top (fun _ _ => ?_)
    refine pk_ite ?_ ?_
    · exact pk_some h
    · extract_lets +onlyGivenNames s_1
      have h_2 : KQw z s_1 := KQw_mu h (Or.inl (by decide))
      clear_value s_1
      exact (QQ_X12_set_110 h_2)
  · refine pk_ite ?_ ?_
    · refine pk_b1 pk_top (fun _ _ => ?_)
      refine pk_ite ?_ ?_
      · exact pk_some h
      · extract_lets +onlyGivenNames s_3
        have h_4 : KQw z s_3 := KQw_mu h (Or.inl (by decide))
        clear_value s_3
        exact (QQ_X12_set_110 h_4)
    · refine pk_ite ?_ ?_
      · refine pk_b1 pk_top (fun _ _ => ?_)
        refine pk_ite ?_ ?_
        · exact (QQ_X12_set_92 h)
        · refine pk_b1 pk_top (fun _ _ => ?_)
          refine pk_ite ?_ ?_
          · exact (QQ_X12_set_92 h)
          · refine pk_nn ?_
            extract_lets +onlyGivenNames s_5
            have h_6 : KQw z s_5 := KQw_mu h (Or.inl (by decide))
            clear_value s_5
            exact (QQ_X12_set_110 h_6)
      · exact pk_some h
theorem QQ_X12_next0_26 {z : mG} {s : mG} (h : KQw z s) : pk (F_X12_next0_26 s) (se (fun τ => KQw z τ) (fun τ => KQw z τ)) := by
  unfold F_X12_next0_26
  extract_lets +onlyGivenNames s_1
  have h_2 : KQw z s_1 := KQw_mu h (Or.inr (by decide))
  clear_value s_1
  exact pk_some h_2
theorem QQ_X12_next0_303 {z : mG} {y1 : Int32} {s : mG} (h : KQw z s) : pk (F_X12_next0_303 y1 s) (fun τ => KQw z τ) := by
  unfold F_X12_next0_303
  extract_lets +onlyGivenNames s_1
  have h_2 : KQw z s_1 := KQw_mu h (Or.inr (by decide))
  clear_value s_1
  exact pk_some h_2
theorem QQ_X12_next0_289 {z : mG} {x1 : Int32} {y0 : Int32} {s : mG} (h : KQw z s) : pk (F_X12_next0_289 x1 y0 s) (fun τ => KQw z τ) := by
  unfold F_X12_next0_289
  refine pk_ite ?_ ?_
  · exact (QQ_X12_next0_303 h)
  · exact (QQ_X12_next0_303 h)
theorem QQ_X12_next0_284 {z : mG} {x1 : Int32} {s : mG} (h : KQw z s) : pk (F_X12_next0_284 x1 s) (fun τ => KQw z τ) := by
  unfold F_X12_next0_284
  exact (QQ_X12_next0_289 h)
theorem QQ_X12_next0_208 {z : mG} {y1 : Int32} {s : mG} (h : KQw z s) : pk (F_X12_next0_208 y1 s) (fun τ => KQw z τ) := by
  unfold F_X12_next0_208
  extract_lets +onlyGivenNames s_1
  have h_2 : KQw z s_1 := KQw_mu h (Or.inr (by decide))
  clear_value s_1
  exact pk_some h_2
theorem QQ_X12_next0_176 {z : mG} {s : mG} (h : KQw z s) : pk (F_X12_next0_176 s) (se (fun τ => KQw z τ) (fun τ => KQw z τ)) := by
  unfold F_X12_next0_176
  extract_lets +onlyGivenNames s_1
  have h_2 : KQw z s_1 := KQw_mu h (Or.inr (by decide))
  clear_value s_1
  exact pk_some h_2
theorem QQ_X12_next0_B126 {z : mG} {s : mG} (h : KQw z s) : pk (F_X12_next0_B126 s) (se (fun τ => KQw z τ) (fun τ => KQw z τ)) := by
  unfold F_X12_next0_B126
  refine pk_b1 pk_top (fun _ _ => ?_)
  refine pk_b1 pk_top (fun _ _ => ?_)
  refine pk_ite ?_ ?_
  · refine pk_ite ?_ ?_
    · refine pk_b1r ?_
      exact (QQ_X12_next0_208 h)
    · refine pk_b1r ?_
      exact (QQ_X12_next0_208 h)
  · refine pk_ite ?_ ?_
    · exact (QQ_X12_next0_176 h)
    · refine pk_b1 pk_top (fun _ _ => ?_)
      extract_lets +onlyGivenNames s_1
      have h_2 : KQw z s_1 := KQw_mu h (Or.inr (by decide))
      clear_value s_1
      exact (QQ_X12_next0_176 h_2)
theorem QQ_X12_next0_L126 {z : mG} {s : mG} (h : KQw z s) : pk (F_X12_next0_L126 s) (fun τ => KQw z τ) := by
  unfold F_X12_next0_L126
  refine pk_whl (fun v => KQw z v) h (fun v hv => ?_)
  exact QQ_X12_next0_B126 hv
theorem QQ_X12_next0_B76 {z : mG} {s : mG} (h : KQw z s) : pk (F_X12_next0_B76 s) (se (fun τ => KQw z τ) (fun τ => KQw z τ)) := by
  unfold F_X12_next0_B76
  refine pk_b1 pk_top (fun _ _ => ?_)
  refine pk_b1 pk_top (fun _ _ => ?_)
  refine pk_ite ?_ ?_
  · refine pk_b1 pk_top (fun _ _ => ?_)
    extract_lets +onlyGivenNames s_1
    have h_2 : KQw z s_1 := KQw_mu h (Or.inr (by decide))
    clear_value s_1
    exact pk_some h_2
  · extract_lets +onlyGivenNames s_3
    have h_4 : KQw z s_3 := KQw_mu h (Or.inr (by decide))
    clear_value s_3
    exact pk_some h_4
theorem QQ_X12_next0_L76 {z : mG} {s : mG} (h : KQw z s) : pk (F_X12_next0_L76 s) (fun τ => KQw z τ) := by
  unfold F_X12_next0_L76
  refine pk_whl (fun v => KQw z v) h (fun v hv => ?_)
  exact QQ_X12_next0_B76 hv
theorem QQ_X12_next0_B0 {z : mG} {s : mG} (h : KQw z s) : pk (F_X12_next0_B0 s) (se (fun τ => KQw z τ) (fun τ => KQw z τ)) := by
  unfold F_X12_next0_B0
  refine pk_b1 pk_top (fun _ _ => ?_)
  refine pk_ite ?_ ?_
  · exact (QQ_X12_next0_26 h)
  · refine pk_b1 pk_top (fun _ _ => ?_)
    refine pk_ite ?_ ?_
    · exact (QQ_X12_next0_26 h)
    · extract_lets +onlyGivenNames s_1
      have h_2 : KQw z s_1 := KQw_mu h (Or.inr (by decide))
      clear_value s_1
      refine pk_b1 pk_top (fun _ _ => ?_)
      refine pk_ite ?_ ?_
      · extract_lets +onlyGivenNames s_3
        have h_4 : KQw z s_3 := KQw_mu h_2 (Or.inr (by decide))
        clear_value s_3
        exact pk_some h_4
      · refine pk_b1 pk_top (fun _ _ => ?_)
        refine pk_ite ?_ ?_
        · refine pk_b1 pk_top (fun _ _ => ?_)
          refine pk_ite ?_ ?_
          · extract_lets +onlyGivenNames s_5
            have h_6 : KQw z s_5 := KQw_mu h_2 (Or.inr (by decide))
            clear_value s_5
            refine pk_ite ?_ ?_
            · refine pk_b1r ?_
              exact (QQ_X12_next0_284 h_6)
            · refine pk_ite ?_ ?_
              · refine pk_b1r ?_
                exact (QQ_X12_next0_284 h_6)
              · refine pk_ite ?_ ?_
                · refine pk_b1r ?_
                  exact (QQ_X12_next0_284 h_6)
                · refine pk_ite ?_ ?_
                  · refine pk_b1r ?_
                    exact (QQ_X12_next0_284 h_6)
                  · refine pk_ite ?_ ?_
                    · refine pk_b1r ?_
                      exact (QQ_X12_next0_284 h_6)
                    · refine pk_ite ?_ ?_
                      · refine pk_b1r ?_
                        exact (QQ_X12_next0_284 h_6)
                      · refine pk_ite ?_ ?_
                        · refine pk_b1r ?_
                          exact (QQ_X12_next0_284 h_6)
                        · refine pk_ite ?_ ?_
                          · refine pk_b1r ?_
                            exact (QQ_X12_next0_284 h_6)
                          · refine pk_ite ?_ ?_
                            · refine pk_b1r ?_
                              exact (QQ_X12_next0_284 h_6)
                            · refine pk_ite ?_ ?_
                              · refine pk_b1r ?_
                                exact (QQ_X12_next0_284 h_6)
                              · refine pk_b1r ?_
                                exact (QQ_X12_next0_289 h_6)
          · extract_lets +onlyGivenNames s_7
            have h_8 : KQw z s_7 := KQw_mu h_2 (Or.inr (by decide))
            clear_value s_7
            refine pk_b1r ?_
            exact (QQ_X12_next0_L126 h_8)
        · refine pk_b1r ?_
          exact (QQ_X12_next0_L76 h_2)
theorem QQ_X12_next0_L0 {z : mG} {s : mG} (h : KQw z s) : pk (F_X12_next0_L0 s) (fun τ => KQw z τ) := by
  unfold F_X12_next0_L0
  refine pk_whl (fun v => KQw z v) h (fun v hv => ?_)
  exact QQ_X12_next0_B0 hv
theorem QQ_X12_next0 {z : mG} {s : mG} (h : KQw z s) : pk (F_X12_next0 s) (fun τ => KQw z τ) := by
  unfold F_X12_next0
  exact (QQ_X12_next0_L0 h)
theorem QQ_X12_bad {z : mG} {a1 : Int32} {s : mG} (h : KQw z s) : pk (F_X12_bad a1 s) (fun τ => KQw z τ.2) := by
  unfold F_X12_bad
  extract_lets +onlyGivenNames s_1
  have h_2 : KQw z s_1 := KQw_mu h (Or.inr (by decide))
  clear_value s_1
  extract_lets +onlyGivenNames s_3
  have h_4 : KQw z s_3 := KQw_mu h_2 (Or.inr (by decide))
  clear_value s_3
  exact pk_some h_4
theorem QQ_X12_need {z : mG} {a1 : Int32} {s : mG} (h : KQw z s) : pk (F_X12_need a1 s) (fun τ => KQw z τ.2) := by
  unfold F_X12_need
  refine pk_ite ?_ ?_
  · refine pk_b1 (QQ_X12_next0 h) (fun s_1 (h_2 : KQw z s_1) => ?_)
    exact pk_some h_2
  · refine pk_b2 (QQ_X12_bad h) (fun _ s_3 (h_4 : KQw z s_3) => ?_)
    refine pk_pp ?_
    exact pk_some h_4
theorem QQ_X12_lay {z : mG} {a1 : Int32} {a2 : Int32} {s : mG} (h : KQw z s) : pk (F_X12_lay a1 a2 s) (fun τ => KQw z τ) := by
  unfold F_X12_lay
  refine pk_nn ?_
  extract_lets +onlyGivenNames s_1
  have h_2 : KQw z s_1 := KQw_mu h (Or.inl (by decide))
  clear_value s_1
  refine pk_nn ?_
  extract_lets +onlyGivenNames s_3
  have h_4 : KQw z s_3 := KQw_mu h_2 (Or.inl (by decide))
  clear_value s_3
  extract_lets +onlyGivenNames s_5
  have h_6 : KQw z s_5 := KQw_mu h_4 (Or.inr (by decide))
  clear_value s_5
  exact pk_some h_6
theorem QQ_X12_opens {z : mG} {s : mG} (h : KQw z s) : pk (F_X12_opens s) (fun τ => KQw z τ.2) := by
  unfold F_X12_opens
  refine pk_ite ?_ ?_
  · refine pk_b2 (QQ_X12_bad h) (fun _ s_1 (h_2 : KQw z s_1) => ?_)
    refine pk_pp ?_
    exact pk_some h_2
  · extract_lets +onlyGivenNames s_3
    have h_4 : KQw z s_3 := KQw_mu h (Or.inr (by decide))
    clear_value s_3
    refine pk_b1 (QQ_X12_next0 h_4) (fun s_5 (h_6 : KQw z s_5) => ?_)
    exact pk_some h_6
theorem QQ_X12_unit_46 {z : mG} {y1 : Int32} {s : mG} (h : KQw z s) : pk (F_X12_unit_46 y1 s) (fun τ => KQw z τ.2) := by
  unfold F_X12_unit_46
  refine pk_b1 (QQ_X12_lay h) (fun s_1 (h_2 : KQw z s_1) => ?_)
  refine pk_b1 (QQ_X12_next0 h_2) (fun s_3 (h_4 : KQw z s_3) => ?_)
  exact pk_some h_4
theorem QQ_X12_unit_30 {z : mG} {x1 : Int32} {s : mG} (h : KQw z s) : pk (F_X12_unit_30 x1 s) (fun τ => KQw z τ.2) := by
  unfold F_X12_unit_30
  refine pk_ite ?_ ?_
  · exact (QQ_X12_unit_46 h)
  · exact (QQ_X12_unit_46 h)
theorem QQ_X12_unit {z : mG} {s : mG} (h : KQw z s) : pk (F_X12_unit s) (fun τ => KQw z τ.2) := by
  unfold F_X12_unit
  refine pk_b1 pk_top (fun _ _ => ?_)
  refine pk_ite ?_ ?_
  · exact (QQ_X12_unit_30 h)
  · refine pk_ite ?_ ?_
    · refine pk_b2 (QQ_X12_bad h) (fun _ s_1 (h_2 : KQw z s_1) => ?_)
      refine pk_pp ?_
      exact pk_some h_2
    · exact (QQ_X12_unit_30 h)
theorem QQ_X12_product_112 {z : mG} {s : mG} (h : KQw z s) : pk (F_X12_product_112 s) (se (fun τ => KQw z τ) (fun τ => KQw z τ.2)) := by
  unfold F_X12_product_112
  exact pk_some h
theorem QQ_X12_product_44 {z : mG} {y0 : Int32} {s : mG} (h : KQw z s) : pk (F_X12_product_44 y0 s) (se (fun τ => KQw z τ) (fun τ => KQw z τ.2)) := by
  unfold F_X12_product_44
  refine pk_b1 (QQ_X12_next0 h) (fun s_1 (h_2 : KQw z s_1) => ?_)
  refine pk_ite ?_ ?_
  · refine pk_b2 (QQ_X12_unit h_2) (fun _ s_3 (h_4 : KQw z s_3) => ?_)
    refine pk_ite ?_ ?_
    · exact pk_some h_4
    · refine pk_b1 (QQ_X12_lay h_4) (fun s_5 (h_6 : KQw z s_5) => ?_)
      exact (QQ_X12_product_112 h_6)
  · refine pk_ite ?_ ?_
    · refine pk_ite ?_ ?_
      · refine pk_b2 (QQ_X12_bad h_2) (fun _ s_7 (h_8 : KQw z s_7) => ?_)
        refine pk_pp ?_
        exact pk_some h_8
      · refine pk_b1 (QQ_X12_next0 h_2) (fun s_9 (h_10 : KQw z s_9) => ?_)
        refine pk_b1 (QQ_X12_lay h_10) (fun s_11 (h_12 : KQw z s_11) => ?_)
        exact (QQ_X12_product_112 h_12)
    · refine pk_b2 (QQ_X12_bad h_2) (fun _ s_13 (h_14 : KQw z s_13) => ?_)
      refine pk_pp ?_
      exact pk_some h_14
theorem QQ_X12_product_29 {z : mG} {s : mG} (h : KQw z s) : pk (F_X12_product_29 s) (se (fun τ => KQw z τ) (fun τ => KQw z τ.2)) := by
  unfold F_X12_product_29
  refine pk_ite ?_ ?_
  · exact (QQ_X12_product_44 h)
  · exact (QQ_X12_product_44 h)
theorem QQ_X12_product_B9 {z : mG} {s : mG} (h : KQw z s) : pk (F_X12_product_B9 s) (se (fun τ => KQw z τ) (fun τ => KQw z τ.2)) := by
  unfold F_X12_product_B9
  refine pk_ite ?_ ?_
  · exact (QQ_X12_product_29 h)
  · refine pk_ite ?_ ?_
    · exact (QQ_X12_product_29 h)
    · exact pk_some h
theorem QQ_X12_product_L9 {z : mG} {s : mG} (h : KQw z s) : pk (F_X12_product_L9 s) (fun τ => KQw z τ.2) := by
  unfold F_X12_product_L9
  refine pk_whl (fun v => KQw z v) h (fun v hv => ?_)
  exact QQ_X12_product_B9 hv
theorem QQ_X12_product {z : mG} {s : mG} (h : KQw z s) : pk (F_X12_product s) (fun τ => KQw z τ.2) := by
  unfold F_X12_product
  refine pk_b2 (QQ_X12_unit h) (fun _ s_1 (h_2 : KQw z s_1) => ?_)
  refine pk_ite ?_ ?_
  · exact pk_some h_2
  · exact (QQ_X12_product_L9 h_2)
theorem QQ_X12_sumUp_46 {z : mG} {y0 : Int32} {s : mG} (h : KQw z s) : pk (F_X12_sumUp_46 y0 s) (se (fun τ => KQw z τ) (fun τ => KQw z τ.2)) := by
  unfold F_X12_sumUp_46
  refine pk_b1 (QQ_X12_next0 h) (fun s_1 (h_2 : KQw z s_1) => ?_)
  refine pk_b2 (QQ_X12_product h_2) (fun _ s_3 (h_4 : KQw z s_3) => ?_)
  refine pk_ite ?_ ?_
  · exact pk_some h_4
  · refine pk_b1 (QQ_X12_lay h_4) (fun s_5 (h_6 : KQw z s_5) => ?_)
    exact pk_some h_6
theorem QQ_X12_sumUp_29 {z : mG} {s : mG} (h : KQw z s) : pk (F_X12_sumUp_29 s) (se (fun τ => KQw z τ) (fun τ => KQw z τ.2)) := by
  unfold F_X12_sumUp_29
  refine pk_ite ?_ ?_
  · exact (QQ_X12_sumUp_46 h)
  · exact (QQ_X12_sumUp_46 h)
theorem QQ_X12_sumUp_B9 {z : mG} {s : mG} (h : KQw z s) : pk (F_X12_sumUp_B9 s) (se (fun τ => KQw z τ) (fun τ => KQw z τ.2)) := by
  unfold F_X12_sumUp_B9
  refine pk_ite ?_ ?_
  · exact (QQ_X12_sumUp_29 h)
  · refine pk_ite ?_ ?_
    · exact (QQ_X12_sumUp_29 h)
    · exact pk_some h
theorem QQ_X12_sumUp_L9 {z : mG} {s : mG} (h : KQw z s) : pk (F_X12_sumUp_L9 s) (fun τ => KQw z τ.2) := by
  unfold F_X12_sumUp_L9
  refine pk_whl (fun v => KQw z v) h (fun v hv => ?_)
  exact QQ_X12_sumUp_B9 hv
theorem QQ_X12_sumUp {z : mG} {s : mG} (h : KQw z s) : pk (F_X12_sumUp s) (fun τ => KQw z τ.2) := by
  unfold F_X12_sumUp
  refine pk_b2 (QQ_X12_product h) (fun _ s_1 (h_2 : KQw z s_1) => ?_)
  refine pk_ite ?_ ?_
  · exact pk_some h_2
  · exact (QQ_X12_sumUp_L9 h_2)
theorem QQ_X12_every_B9 {z : mG} {rec : mG → Option (Int32 × mG)} {s : mG} (hrec : ∀ (r : mG), KQw z r → pk (rec r) (fun τ => KQw z τ.2)) (h : KQw z s) : pk (F_X12_every_B9 rec s) (se (fun τ => KQw z τ) (fun τ => KQw z τ.2)) := by
  unfold F_X12_every_B9
  refine pk_ite ?_ ?_
  · refine pk_b1 (QQ_X12_next0 h) (fun s_1 (h_2 : KQw z s_1) => ?_)
    refine pk_b2 (hrec _ h_2) (fun _ s_3 (h_4 : KQw z s_3) => ?_)
    refine pk_ite ?_ ?_
    · exact pk_some h_4
    · refine pk_b1 (QQ_X12_lay h_4) (fun s_5 (h_6 : KQw z s_5) => ?_)
      exact pk_some h_6
  · exact pk_some h
theorem QQ_X12_every_L9 {z : mG} {rec : mG → Option (Int32 × mG)} {s : mG} (hrec : ∀ (r : mG), KQw z r → pk (rec r) (fun τ => KQw z τ.2)) (h : KQw z s) : pk (F_X12_every_L9 rec s) (fun τ => KQw z τ.2) := by
  unfold F_X12_every_L9
  refine pk_whl (fun v => KQw z v) h (fun v hv => ?_)
  exact QQ_X12_every_B9 hrec hv
theorem QQ_X12_every {z : mG} {rec : mG → Option (Int32 × mG)} {s : mG} (hrec : ∀ (r : mG), KQw z r → pk (rec r) (fun τ => KQw z τ.2)) (h : KQw z s) : pk (F_X12_every rec s) (fun τ => KQw z τ.2) := by
  unfold F_X12_every
  refine pk_b2 (hrec _ h) (fun _ s_1 (h_2 : KQw z s_1) => ?_)
  refine pk_ite ?_ ?_
  · exact pk_some h_2
  · exact (QQ_X12_every_L9 hrec h_2)
theorem QQ_X12_any_B9 {z : mG} {rec : mG → Option (Int32 × mG)} {s : mG} (hrec : ∀ (r : mG), KQw z r → pk (rec r) (fun τ => KQw z τ.2)) (h : KQw z s) : pk (F_X12_any_B9 rec s) (se (fun τ => KQw z τ) (fun τ => KQw z τ.2)) := by
  unfold F_X12_any_B9
  refine pk_ite ?_ ?_
  · refine pk_b1 (QQ_X12_next0 h) (fun s_1 (h_2 : KQw z s_1) => ?_)
    refine pk_b2 (QQ_X12_every hrec h_2) (fun _ s_3 (h_4 : KQw z s_3) => ?_)
    refine pk_ite ?_ ?_
    · exact pk_some h_4
    · refine pk_b1 (QQ_X12_lay h_4) (fun s_5 (h_6 : KQw z s_5) => ?_)
      exact pk_some h_6
  · exact pk_some h
theorem QQ_X12_any_L9 {z : mG} {rec : mG → Option (Int32 × mG)} {s : mG} (hrec : ∀ (r : mG), KQw z r → pk (rec r) (fun τ => KQw z τ.2)) (h : KQw z s) : pk (F_X12_any_L9 rec s) (fun τ => KQw z τ.2) := by
  unfold F_X12_any_L9
  refine pk_whl (fun v => KQw z v) h (fun v hv => ?_)
  exact QQ_X12_any_B9 hrec hv
theorem QQ_X12_any {z : mG} {rec : mG → Option (Int32 × mG)} {s : mG} (hrec : ∀ (r : mG), KQw z r → pk (rec r) (fun τ => KQw z τ.2)) (h : KQw z s) : pk (F_X12_any rec s) (fun τ => KQw z τ.2) := by
  unfold F_X12_any
  refine pk_b2 (QQ_X12_every hrec h) (fun _ s_1 (h_2 : KQw z s_1) => ?_)
  refine pk_ite ?_ ?_
  · exact pk_some h_2
  · exact (QQ_X12_any_L9 hrec h_2)
theorem QQ_X12_oneTest_23 {z : mG} {rec : mG → Option (Int32 × mG)} {s : mG} (hrec : ∀ (r : mG), KQw z r → pk (rec r) (fun τ => KQw z τ.2)) (h : KQw z s) : pk (F_X12_oneTest_23 rec s) (fun τ => KQw z τ.2) := by
  unfold F_X12_oneTest_23
  exact pk_some h
theorem QQ_X12_oneTest_78 {z : mG} {rec : mG → Option (Int32 × mG)} {s : mG} (hrec : ∀ (r : mG), KQw z r → pk (rec r) (fun τ => KQw z τ.2)) (h : KQw z s) : pk (F_X12_oneTest_78 rec s) (fun τ => KQw z τ.2) := by
  unfold F_X12_oneTest_78
  exact pk_some h
theorem QQ_X12_oneTest_147 {z : mG} {rec : mG → Option (Int32 × mG)} {y0 : Int32} {s : mG} (hrec : ∀ (r : mG), KQw z r → pk (rec r) (fun τ => KQw z τ.2)) (h : KQw z s) : pk (F_X12_oneTest_147 rec y0 s) (fun τ => KQw z τ.2) := by
  unfold F_X12_oneTest_147
  refine pk_ite ?_ ?_
  · refine pk_b2 (QQ_X12_bad h) (fun _ s_1 (h_2 : KQw z s_1) => ?_)
    refine pk_pp ?_
    exact pk_some h_2
  · refine pk_b1 (QQ_X12_next0 h) (fun s_3 (h_4 : KQw z s_3) => ?_)
    refine pk_b2 (QQ_X12_sumUp h_4) (fun _ s_5 (h_6 : KQw z s_5) => ?_)
    refine pk_ite ?_ ?_
    · exact pk_some h_6
    · refine pk_b1 (QQ_X12_lay h_6) (fun s_7 (h_8 : KQw z s_7) => ?_)
      exact pk_some h_8
theorem QQ_X12_oneTest {z : mG} {rec : mG → Option (Int32 × mG)} {s : mG} (hrec : ∀ (r : mG), KQw z r → pk (rec r) (fun τ => KQw z τ.2)) (h : KQw z s) : pk (F_X12_oneTest rec s) (fun τ => KQw z τ.2) := by
  unfold F_X12_oneTest
  refine pk_ite ?_ ?_
  · refine pk_b2 (QQ_X12_opens h) (fun _ s_1 (h_2 : KQw z s_1) => ?_)
    refine pk_ite ?_ ?_
    · exact (QQ_X12_oneTest_23 hrec h_2)
    · refine pk_b2 (hrec _ h_2) (fun _ s_3 (h_4 : KQw z s_3) => ?_)
      refine pk_ite ?_ ?_
      · exact (QQ_X12_oneTest_23 hrec h_4)
      · extract_lets +onlyGivenNames s_5
        have h_6 : KQw z s_5 := KQw_mu h_4 (Or.inr (by decide))
        clear_value s_5
        refine pk_b1 (QQ_X12_lay h_6) (fun s_7 (h_8 : KQw z s_7) => ?_)
        exact pk_some h_8
  · refine pk_ite ?_ ?_
    · refine pk_b2 (QQ_X12_opens h) (fun _ s_9 (h_10 : KQw z s_9) => ?_)
      refine pk_ite ?_ ?_
      · exact (QQ_X12_oneTest_78 hrec h_10)
      · refine pk_b2 (QQ_X12_any hrec h_10) (fun _ s_11 (h_12 : KQw z s_11) => ?_)
        refine pk_ite ?_ ?_
        · exact (QQ_X12_oneTest_78 hrec h_12)
        · refine pk_b2 (QQ_X12_need h_12) (fun _ s_13 (h_14 : KQw z s_13) => ?_)
          refine pk_ite ?_ ?_
          · exact (QQ_X12_oneTest_78 hrec h_14)
          · extract_lets +onlyGivenNames s_15
            have h_16 : KQw z s_15 := KQw_mu h_14 (Or.inr (by decide))
            clear_value s_15
            exact pk_some h_16
    · refine pk_b2 (QQ_X12_sumUp h) (fun _ s_17 (h_18 : KQw z s_17) => ?_)
      refine pk_ite ?_ ?_
      · exact pk_some h_18
      · refine pk_ite ?_ ?_
        · exact (QQ_X12_oneTest_147 hrec h_18)
        · refine pk_ite ?_ ?_
          · exact (QQ_X12_oneTest_147 hrec h_18)
          · refine pk_ite ?_ ?_
            · exact (QQ_X12_oneTest_147 hrec h_18)
            · exact (QQ_X12_oneTest_147 hrec h_18)
theorem QQ_Q_X12_oneTest {z : mG} : ∀ (n : Nat) (s : mG), KQw z s → pk (Q_X12_oneTest n s) (fun τ => KQw z τ.2)
  | 0, _, _ => pk_none
  | n + 1, _, h => QQ_X12_oneTest (fun s h => QQ_Q_X12_oneTest n s h) h
theorem QQ_R_X12_oneTest {z : mG} {s : mG} (h : KQw z s) : pk (R_X12_oneTest s) (fun τ => KQw z τ.2) := QQ_Q_X12_oneTest 9 s h
theorem QQ_X12_aLine_123 {z : mG} {s : mG} (h : KQw z s) : pk (F_X12_aLine_123 s) (fun τ => KQw z τ.2) := by
  unfold F_X12_aLine_123
  refine pk_nn ?_
  extract_lets +onlyGivenNames s_1
  have h_2 : KQw z s_1 := KQw_mu h (Or.inl (by decide))
  clear_value s_1
  refine pk_b2 (QQ_X12_need h_2) (fun _ s_3 (h_4 : KQw z s_3) => ?_)
  refine pk_pp ?_
  exact pk_some h_4
theorem QQ_X12_aLine {z : mG} {s : mG} (h : KQw z s) : pk (F_X12_aLine s) (fun τ => KQw z τ.2) := by
  unfold F_X12_aLine
  refine pk_b1 pk_top (fun _ _ => ?_)
  refine pk_ite ?_ ?_
  · refine pk_b2 (QQ_X12_bad h) (fun _ s_1 (h_2 : KQw z s_1) => ?_)
    refine pk_pp ?_
    exact pk_some h_2
  · refine pk_ite ?_ ?_
    · refine pk_b2 (QQ_X12_bad h) (fun _ s_3 (h_4 : KQw z s_3) => ?_)
      refine pk_pp ?_
      exact pk_some h_4
    · extract_lets +onlyGivenNames s_5
      have h_6 : KQw z s_5 := KQw_mu h (Or.inr (by decide))
      clear_value s_5
      refine pk_nn ?_
      extract_lets +onlyGivenNames s_7
      have h_8 : KQw z s_7 := KQw_mu h_6 (Or.inl (by decide))
      clear_value s_7
      refine pk_b1 (QQ_X12_next0 h_8) (fun s_9 (h_10 : KQw z s_9) => ?_)
      refine pk_nn ?_
      extract_lets +onlyGivenNames s_11
      have h_12 : KQw z s_11 := KQw_mu h_10 (Or.inl (by decide))
      clear_value s_11
      refine pk_b2 (QQ_X12_sumUp h_12) (fun _ s_13 (h_14 : KQw z s_13) => ?_)
      refine pk_ite ?_ ?_
      · exact pk_some h_14
      · refine pk_nn ?_
        extract_lets +onlyGivenNames s_15
        have h_16 : KQw z s_15 := KQw_mu h_14 (Or.inl (by decide))
        clear_value s_15
        refine pk_ite ?_ ?_
        · refine pk_b1 (QQ_X12_next0 h_16) (fun s_17 (h_18 : KQw z s_17) => ?_)
          refine pk_b2 (QQ_X12_any (fun _ h => QQ_R_X12_oneTest h) h_18) (fun _ s_19 (h_20 : KQw z s_19) => ?_)
          refine pk_ite ?_ ?_
          · exact pk_some h_20
          · exact (QQ_X12_aLine_123 h_20)
        · exact (QQ_X12_aLine_123 h_16)
theorem QQ_X12_readsLaw_49 {z : mG} {x1 : Int32} {s : mG} (h : KQw z s) : pk (F_X12_readsLaw_49 x1 s) (fun τ => KQw z τ.2) := by
  unfold F_X12_readsLaw_49
  refine pk_pp ?_
  exact pk_some h
theorem QQ_X12_readsLaw_42 {z : mG} {x1 : Int32} {y1 : Int32} {y2 : Int32} {s : mG} (h : KQw z s) : pk (F_X12_readsLaw_42 x1 y1 y2 s) (se (fun τ => KQw z τ.2) (fun τ => KQw z τ.2)) := by
  unfold F_X12_readsLaw_42
  extract_lets +onlyGivenNames s_1
  have h_2 : KQw z s_1 := KQw_mu h (Or.inr (by decide))
  clear_value s_1
  exact pk_some h_2
theorem QQ_X12_readsLaw_B12 {z : mG} {x1 : Int32} {s : mG} (h : KQw z s) : pk (F_X12_readsLaw_B12 x1 s) (se (fun τ => KQw z τ.2) (fun τ => KQw z τ.2)) := by
  unfold F_X12_readsLaw_B12
  refine pk_ite ?_ ?_
  · refine pk_b1r ?_
    exact (QQ_X12_readsLaw_49 h)
  · refine pk_ite ?_ ?_
    · refine pk_b1r ?_
      exact (QQ_X12_readsLaw_49 h)
    · refine pk_b2 (QQ_X12_aLine h) (fun _ s_1 (h_2 : KQw z s_1) => ?_)
      refine pk_ite ?_ ?_
      · exact (QQ_X12_readsLaw_42 h_2)
      · exact (QQ_X12_readsLaw_42 h_2)
theorem QQ_X12_readsLaw_L12 {z : mG} {x1 : Int32} {s : mG} (h : KQw z s) : pk (F_X12_readsLaw_L12 x1 s) (fun τ => KQw z τ.2) := by
  unfold F_X12_readsLaw_L12
  refine pk_whl (fun v => KQw z v.2) h (fun v hv => ?_)
  obtain ⟨y0, y1⟩ := v
  exact QQ_X12_readsLaw_B12 hv
theorem QQ_X12_readsLaw {z : mG} {s : mG} (h : KQw z s) : pk (F_X12_readsLaw s) (fun τ => KQw z τ.2) := by
  unfold F_X12_readsLaw
  extract_lets +onlyGivenNames s_1
  have h_2 : KQw z s_1 := KQw_mu h (Or.inr (by decide))
  clear_value s_1
  extract_lets +onlyGivenNames s_3
  have h_4 : KQw z s_3 := KQw_mu h_2 (Or.inr (by decide))
  clear_value s_3
  exact (QQ_X12_readsLaw_L12 h_4)
theorem QQ_X12_number {z : mG} {a1 : Int32} {a2 : Int32} {s : mG} (h : KQw z s) : pk (F_X12_number a1 a2 s) (fun τ => KQw z τ.2) := by
  unfold F_X12_number
  refine pk_ite ?_ ?_
  · refine pk_b1 pk_top (fun _ _ => ?_)
    refine pk_ite ?_ ?_
    · refine pk_b2 (QQ_X12_bad h) (fun _ s_1 (h_2 : KQw z s_1) => ?_)
      refine pk_pp ?_
      exact pk_some h_2
    · extract_lets +onlyGivenNames s_3
      have h_4 : KQw z s_3 := KQw_mu h (Or.inr (by decide))
      clear_value s_3
      refine pk_b1 (QQ_X12_next0 h_4) (fun s_5 (h_6 : KQw z s_5) => ?_)
      exact pk_some h_6
  · refine pk_b2 (QQ_X12_bad h) (fun _ s_7 (h_8 : KQw z s_7) => ?_)
    refine pk_pp ?_
    exact pk_some h_8
theorem QQ_X12_told_18 {z : mG} {s : mG} (h : KQw z s) : pk (F_X12_told_18 s) (fun τ => KQw z τ.2) := by
  unfold F_X12_told_18
  exact pk_some h
theorem QQ_X12_told {z : mG} {a1 : Int32} {a2 : Int32} {a3 : Int32} {a4 : Int32} {s : mG} (h : KQw z s) : pk (F_X12_told a1 a2 a3 a4 s) (fun τ => KQw z τ.2) := by
  unfold F_X12_told
  refine pk_b2 (QQ_X12_need h) (fun _ s_1 (h_2 : KQw z s_1) => ?_)
  refine pk_ite ?_ ?_
  · exact (QQ_X12_told_18 h_2)
  · refine pk_b2 (QQ_X12_number h_2) (fun _ s_3 (h_4 : KQw z s_3) => ?_)
    refine pk_ite ?_ ?_
    · exact (QQ_X12_told_18 h_4)
    · refine pk_nn ?_
      extract_lets +onlyGivenNames s_5
      have h_6 : KQw z s_5 := KQw_mu h_4 (Or.inl (by decide))
      clear_value s_5
      exact pk_some h_6
theorem QQ_X12_aSign_63 {z : mG} {s : mG} (h : KQw z s) : pk (F_X12_aSign_63 s) (fun τ => KQw z τ.2) := by
  unfold F_X12_aSign_63
  exact pk_some h
theorem QQ_X12_aSign {z : mG} {s : mG} (h : KQw z s) : pk (F_X12_aSign s) (fun τ => KQw z τ.2) := by
  unfold F_X12_aSign
  refine pk_b2 (QQ_X12_need h) (fun _ s_1 (h_2 : KQw z s_1) => ?_)
  refine pk_ite ?_ ?_
  · exact (QQ_X12_aSign_63 h_2)
  · refine pk_b2 (QQ_X12_told h_2) (fun _ s_3 (h_4 : KQw z s_3) => ?_)
    refine pk_ite ?_ ?_
    · exact (QQ_X12_aSign_63 h_4)
    · refine pk_b2 (QQ_X12_told h_4) (fun _ s_5 (h_6 : KQw z s_5) => ?_)
      refine pk_ite ?_ ?_
      · exact (QQ_X12_aSign_63 h_6)
      · refine pk_b2 (QQ_X12_need h_6) (fun _ s_7 (h_8 : KQw z s_7) => ?_)
        refine pk_ite ?_ ?_
        · exact (QQ_X12_aSign_63 h_8)
        · exact pk_some h_8
theorem QQ_X12_aShift_90 {z : mG} {s : mG} (h : KQw z s) : pk (F_X12_aShift_90 s) (fun τ => KQw z τ.2) := by
  unfold F_X12_aShift_90
  exact pk_some h
theorem QQ_X12_aShift {z : mG} {s : mG} (h : KQw z s) : pk (F_X12_aShift s) (fun τ => KQw z τ.2) := by
  unfold F_X12_aShift
  refine pk_b2 (QQ_X12_told h) (fun _ s_1 (h_2 : KQw z s_1) => ?_)
  refine pk_ite ?_ ?_
  · exact (QQ_X12_aShift_90 h_2)
  · refine pk_b2 (QQ_X12_told h_2) (fun _ s_3 (h_4 : KQw z s_3) => ?_)
    refine pk_ite ?_ ?_
    · exact (QQ_X12_aShift_90 h_4)
    · refine pk_b2 (QQ_X12_told h_4) (fun _ s_5 (h_6 : KQw z s_5) => ?_)
      refine pk_ite ?_ ?_
      · exact (QQ_X12_aShift_90 h_6)
      · refine pk_b2 (QQ_X12_told h_6) (fun _ s_7 (h_8 : KQw z s_7) => ?_)
        refine pk_ite ?_ ?_
        · exact (QQ_X12_aShift_90 h_8)
        · refine pk_b2 (QQ_X12_need h_8) (fun _ s_9 (h_10 : KQw z s_9) => ?_)
          refine pk_ite ?_ ?_
          · exact (QQ_X12_aShift_90 h_10)
          · exact pk_some h_10
theorem QQ_X12_readsRows_115 {z : mG} {x1 : Int32} {s : mG} (h : KQw z s) : pk (F_X12_readsRows_115 x1 s) (fun τ => KQw z τ.2) := by
  unfold F_X12_readsRows_115
  refine pk_pp ?_
  exact pk_some h
theorem QQ_X12_readsRows_108 {z : mG} {x1 : Int32} {y1 : Int32} {y2 : Int32} {s : mG} (h : KQw z s) : pk (F_X12_readsRows_108 x1 y1 y2 s) (se (fun τ => KQw z τ.2) (fun τ => KQw z τ.2)) := by
  unfold F_X12_readsRows_108
  extract_lets +onlyGivenNames s_1
  have h_2 : KQw z s_1 := KQw_mu h (Or.inr (by decide))
  clear_value s_1
  exact pk_some h_2
theorem QQ_X12_readsRows_93 {z : mG} {y0 : Int32} {s : mG} (h : KQw z s) : pk (F_X12_readsRows_93 y0 s) (se (fun τ => KQw z τ.2) (fun τ => KQw z τ.2)) := by
  unfold F_X12_readsRows_93
  refine pk_ite ?_ ?_
  · exact (QQ_X12_readsRows_108 h)
  · exact (QQ_X12_readsRows_108 h)
theorem QQ_X12_readsRows_65 {z : mG} {y0 : Int32} {y1 : Int32} {s : mG} (h : KQw z s) : pk (F_X12_readsRows_65 y0 y1 s) (se (fun τ => KQw z τ.2) (fun τ => KQw z τ.2)) := by
  unfold F_X12_readsRows_65
  refine pk_ite ?_ ?_
  · refine pk_b2 (QQ_X12_bad h) (fun _ s_1 (h_2 : KQw z s_1) => ?_)
    refine pk_pp ?_
    exact pk_some h_2
  · refine pk_ite ?_ ?_
    · refine pk_b2 (QQ_X12_aSign h) (fun _ s_3 (h_4 : KQw z s_3) => ?_)
      exact (QQ_X12_readsRows_93 h_4)
    · refine pk_b2 (QQ_X12_aShift h) (fun _ s_5 (h_6 : KQw z s_5) => ?_)
      exact (QQ_X12_readsRows_93 h_6)
theorem QQ_X12_readsRows_37 {z : mG} {y0 : Int32} {y1 : Int32} {s : mG} (h : KQw z s) : pk (F_X12_readsRows_37 y0 y1 s) (se (fun τ => KQw z τ.2) (fun τ => KQw z τ.2)) := by
  unfold F_X12_readsRows_37
  refine pk_ite ?_ ?_
  · refine pk_ite ?_ ?_
    · exact (QQ_X12_readsRows_65 h)
    · exact (QQ_X12_readsRows_65 h)
  · refine pk_b2 (QQ_X12_bad h) (fun _ s_1 (h_2 : KQw z s_1) => ?_)
    refine pk_pp ?_
    exact pk_some h_2
theorem QQ_X12_readsRows_B7 {z : mG} {x1 : Int32} {s : mG} (h : KQw z s) : pk (F_X12_readsRows_B7 x1 s) (se (fun τ => KQw z τ.2) (fun τ => KQw z τ.2)) := by
  unfold F_X12_readsRows_B7
  refine pk_ite ?_ ?_
  · refine pk_b1r ?_
    exact (QQ_X12_readsRows_115 h)
  · refine pk_ite ?_ ?_
    · refine pk_b1r ?_
      exact (QQ_X12_readsRows_115 h)
    · refine pk_ite ?_ ?_
      · exact (QQ_X12_readsRows_37 h)
      · exact (QQ_X12_readsRows_37 h)
theorem QQ_X12_readsRows_L7 {z : mG} {x1 : Int32} {s : mG} (h : KQw z s) : pk (F_X12_readsRows_L7 x1 s) (fun τ => KQw z τ.2) := by
  unfold F_X12_readsRows_L7
  refine pk_whl (fun v => KQw z v.2) h (fun v hv => ?_)
  obtain ⟨y0, y1⟩ := v
  exact QQ_X12_readsRows_B7 hv
theorem QQ_X12_readsRows {z : mG} {s : mG} (h : KQw z s) : pk (F_X12_readsRows s) (fun τ => KQw z τ.2) := by
  unfold F_X12_readsRows
  extract_lets +onlyGivenNames s_1
  have h_2 : KQw z s_1 := KQw_mu h (Or.inr (by decide))
  clear_value s_1
  exact (QQ_X12_readsRows_L7 h_2)
theorem QQ_X12_putsLaw_B107 {z : mG} {x1 : Int32} {s : mG} (h : KQw z s) : pk (F_X12_putsLaw_B107 x1 s) (se (fun τ => KQw z τ.2) (fun τ => KQw z τ.2)) := by
  unfold F_X12_putsLaw_B107
  refine pk_ite ?_ ?_
  · exact pk_some h
  · refine pk_nn ?_
    refine pk_nn ?_
    extract_lets +onlyGivenNames s_1
    have h_2 : KQw z s_1 := KQw_mu h (Or.inl (by decide))
    clear_value s_1
    exact pk_some h_2
theorem QQ_X12_putsLaw_L107 {z : mG} {x1 : Int32} {s : mG} (h : KQw z s) : pk (F_X12_putsLaw_L107 x1 s) (fun τ => KQw z τ.2) := by
  unfold F_X12_putsLaw_L107
  refine pk_whl (fun v => KQw z v.2) h (fun v hv => ?_)
  obtain ⟨y0, y1⟩ := v
  exact QQ_X12_putsLaw_B107 hv
theorem QQ_X12_putsLaw_B13 {z : mG} {x1 : Int32} {s : mG} (h : KQw z s) : pk (F_X12_putsLaw_B13 x1 s) (se (fun τ => KQw z τ.2) (fun τ => KQw z τ.2)) := by
  unfold F_X12_putsLaw_B13
  refine pk_ite ?_ ?_
  · refine pk_b1r ?_
    exact (QQ_X12_putsLaw_L107 h)
  · refine pk_nn ?_
    refine pk_nn ?_
    extract_lets +onlyGivenNames s_1
    have h_2 : KQw z s_1 := KQw_mu h (Or.inl (by decide))
    clear_value s_1
    refine pk_nn ?_
    refine pk_nn ?_
    extract_lets +onlyGivenNames s_3
    have h_4 : KQw z s_3 := KQw_mu h_2 (Or.inl (by decide))
    clear_value s_3
    refine pk_nn ?_
    refine pk_nn ?_
    extract_lets +onlyGivenNames s_5
    have h_6 : KQw z s_5 := KQw_mu h_4 (Or.inl (by decide))
    clear_value s_5
    refine pk_nn ?_
    refine pk_nn ?_
    extract_lets +onlyGivenNames s_7
    have h_8 : KQw z s_7 := KQw_mu h_6 (Or.inl (by decide))
    clear_value s_7
    exact pk_some h_8
theorem QQ_X12_putsLaw_L13 {z : mG} {x1 : Int32} {s : mG} (h : KQw z s) : pk (F_X12_putsLaw_L13 x1 s) (fun τ => KQw z τ.2) := by
  unfold F_X12_putsLaw_L13
  refine pk_whl (fun v => KQw z v.2) h (fun v hv => ?_)
  obtain ⟨y0, y1⟩ := v
  exact QQ_X12_putsLaw_B13 hv
theorem QQ_X12_putsLaw {z : mG} {s : mG} (h : KQw z s) : pk (F_X12_putsLaw s) (fun τ => KQw z τ.2) := by
  unfold F_X12_putsLaw
  extract_lets +onlyGivenNames s_1
  have h_2 : KQw z s_1 := KQw_mu h (Or.inl (by decide))
  clear_value s_1
  exact (QQ_X12_putsLaw_L13 h_2)
theorem QQ_X12_putsSigns_B47 {z : mG} {x1 : Int32} {s : mG} (h : KQw z s) : pk (F_X12_putsSigns_B47 x1 s) (se (fun τ => KQw z τ.2) (fun τ => KQw z τ.2)) := by
  unfold F_X12_putsSigns_B47
  refine pk_ite ?_ ?_
  · refine pk_b1 (QQ_X12_forgets h) (fun s_1 (h_2 : KQw z s_1) => ?_)
    exact pk_some h_2
  · refine pk_nn ?_
    extract_lets +onlyGivenNames s_3
    have h_4 : KQw z s_3 := KQw_mu h (Or.inl (by decide))
    clear_value s_3
    exact pk_some h_4
theorem QQ_X12_putsSigns_L47 {z : mG} {x1 : Int32} {s : mG} (h : KQw z s) : pk (F_X12_putsSigns_L47 x1 s) (fun τ => KQw z τ.2) := by
  unfold F_X12_putsSigns_L47
  refine pk_whl (fun v => KQw z v.2) h (fun v hv => ?_)
  obtain ⟨y0, y1⟩ := v
  exact QQ_X12_putsSigns_B47 hv
theorem QQ_X12_putsSigns_B13 {z : mG} {x1 : Int32} {s : mG} (h : KQw z s) : pk (F_X12_putsSigns_B13 x1 s) (se (fun τ => KQw z τ.2) (fun τ => KQw z τ.2)) := by
  unfold F_X12_putsSigns_B13
  refine pk_ite ?_ ?_
  · refine pk_b1r ?_
    exact (QQ_X12_putsSigns_L47 h)
  · refine pk_nn ?_
    refine pk_nn ?_
    extract_lets +onlyGivenNames s_1
    have h_2 : KQw z s_1 := KQw_mu h (Or.inl (by decide))
    clear_value s_1
    exact pk_some h_2
theorem QQ_X12_putsSigns_L13 {z : mG} {x1 : Int32} {s : mG} (h : KQw z s) : pk (F_X12_putsSigns_L13 x1 s) (fun τ => KQw z τ.2) := by
  unfold F_X12_putsSigns_L13
  refine pk_whl (fun v => KQw z v.2) h (fun v hv => ?_)
  obtain ⟨y0, y1⟩ := v
  exact QQ_X12_putsSigns_B13 hv
theorem QQ_X12_putsSigns {z : mG} {s : mG} (h : KQw z s) : pk (F_X12_putsSigns s) (fun τ => KQw z τ.2) := by
  unfold F_X12_putsSigns
  extract_lets +onlyGivenNames s_1
  have h_2 : KQw z s_1 := KQw_mu h (Or.inl (by decide))
  clear_value s_1
  exact (QQ_X12_putsSigns_L13 h_2)
theorem QQ_X12_putsShifts_B13 {z : mG} {x1 : Int32} {s : mG} (h : KQw z s) : pk (F_X12_putsShifts_B13 x1 s) (se (fun τ => KQw z τ.2) (fun τ => KQw z τ.2)) := by
  unfold F_X12_putsShifts_B13
  refine pk_ite ?_ ?_
  · refine pk_b1 (QQ_X12_forgets h) (fun s_1 (h_2 : KQw z s_1) => ?_)
    exact pk_some h_2
  · refine pk_nn ?_
    refine pk_nn ?_
    extract_lets +onlyGivenNames s_3
    have h_4 : KQw z s_3 := KQw_mu h (Or.inl (by decide))
    clear_value s_3
    exact pk_some h_4
theorem QQ_X12_putsShifts_L13 {z : mG} {x1 : Int32} {s : mG} (h : KQw z s) : pk (F_X12_putsShifts_L13 x1 s) (fun τ => KQw z τ.2) := by
  unfold F_X12_putsShifts_L13
  refine pk_whl (fun v => KQw z v.2) h (fun v hv => ?_)
  obtain ⟨y0, y1⟩ := v
  exact QQ_X12_putsShifts_B13 hv
theorem QQ_X12_putsShifts {z : mG} {s : mG} (h : KQw z s) : pk (F_X12_putsShifts s) (fun τ => KQw z τ.2) := by
  unfold F_X12_putsShifts
  extract_lets +onlyGivenNames s_1
  have h_2 : KQw z s_1 := KQw_mu h (Or.inl (by decide))
  clear_value s_1
  exact (QQ_X12_putsShifts_L13 h_2)
theorem QQ_X12_comesTo_180 {z : mG} {x1 : Int32} {x3 : Int32} {x4 : Int32} {x5 : Int32} {s : mG} (h : KQw z s) : pk (F_X12_comesTo_180 x1 x3 x4 x5 s) (se (fun τ => KQw z τ.2.2.2.2) (fun τ => KQw z τ.2)) := by
  unfold F_X12_comesTo_180
  exact pk_some h
theorem QQ_X12_comesTo_86 {z : mG} {x1 : Int32} {x3 : Int32} {x4 : Int32} {x5 : Int32} {y1 : Int32} {y2 : Int32} {s : mG} (h : KQw z s) : pk (F_X12_comesTo_86 x1 x3 x4 x5 y1 y2 s) (se (fun τ => KQw z τ.2.2.2.2) (fun τ => KQw z τ.2)) := by
  unfold F_X12_comesTo_86
  refine pk_nn ?_
  extract_lets +onlyGivenNames s_1
  have h_2 : KQw z s_1 := KQw_mu h (Or.inl (by decide))
  clear_value s_1
  exact (QQ_X12_comesTo_180 h_2)
theorem QQ_X12_comesTo_B6 {z : mG} {x1 : Int32} {x3 : Int32} {x4 : Int32} {x5 : Int32} {s : mG} (h : KQw z s) : pk (F_X12_comesTo_B6 x1 x3 x4 x5 s) (se (fun τ => KQw z τ.2.2.2.2) (fun τ => KQw z τ.2)) := by
  unfold F_X12_comesTo_B6
  refine pk_ite ?_ ?_
  · exact pk_some h
  · refine pk_nn ?_
    extract_lets +onlyGivenNames v_1
    clear_value v_1
    refine pk_nn ?_
    extract_lets +onlyGivenNames v_2
    clear_value v_2
    refine pk_ite ?_ ?_
    · refine pk_ite ?_ ?_
      · refine pk_nn ?_
        refine pk_nn ?_
        refine pk_nn ?_
        extract_lets +onlyGivenNames s_3
        have h_4 : KQw z s_3 := KQw_mu h (Or.inl (by decide))
        clear_value s_3
        exact (QQ_X12_comesTo_180 h_4)
      · refine pk_ite ?_ ?_
        · refine pk_nn ?_
          refine pk_nn ?_
          extract_lets +onlyGivenNames s_5
          have h_6 : KQw z s_5 := KQw_mu h (Or.inl (by decide))
          clear_value s_5
          exact (QQ_X12_comesTo_180 h_6)
        · refine pk_nn ?_
          refine pk_nn ?_
          refine pk_b1 pk_top (fun _ _ => ?_)
          refine pk_nn ?_
          extract_lets +onlyGivenNames s_7
          have h_8 : KQw z s_7 := KQw_mu h (Or.inl (by decide))
          clear_value s_7
          exact (QQ_X12_comesTo_180 h_8)
    · refine pk_ite ?_ ?_
      · exact (QQ_X12_comesTo_86 h)
      · refine pk_nn ?_
        exact (QQ_X12_comesTo_86 h)
theorem QQ_X12_comesTo_L6 {z : mG} {x1 : Int32} {x3 : Int32} {x4 : Int32} {x5 : Int32} {s : mG} (h : KQw z s) : pk (F_X12_comesTo_L6 x1 x3 x4 x5 s) (fun τ => KQw z τ.2) := by
  unfold F_X12_comesTo_L6
  refine pk_whl (fun v => KQw z v.2.2.2.2) h (fun v hv => ?_)
  obtain ⟨y0, y1, y2, y3, y4⟩ := v
  exact QQ_X12_comesTo_B6 hv
theorem QQ_X12_comesTo {z : mG} {a1 : Int32} {a2 : Int32} {a3 : Int32} {s : mG} (h : KQw z s) : pk (F_X12_comesTo a1 a2 a3 s) (fun τ => KQw z τ.2) := by
  unfold F_X12_comesTo
  exact (QQ_X12_comesTo_L6 h)
theorem QQ_X12_isSo_52 {z : mG} {s : mG} (h : KQw z s) : pk (F_X12_isSo_52 s) (fun τ => KQw z τ.2) := by
  unfold F_X12_isSo_52
  exact pk_some h
theorem QQ_X12_isSo {z : mG} {a1 : Int32} {s : mG} (h : KQw z s) : pk (F_X12_isSo a1 s) (fun τ => KQw z τ.2) := by
  unfold F_X12_isSo
  refine pk_nn ?_
  refine pk_nn ?_
  refine pk_ite ?_ ?_
  · exact (QQ_X12_isSo_52 h)
  · refine pk_nn ?_
    refine pk_nn ?_
    refine pk_b2 (QQ_X12_comesTo h) (fun _ s_1 (h_2 : KQw z s_1) => ?_)
    refine pk_ite ?_ ?_
    · exact (QQ_X12_isSo_52 h_2)
    · exact pk_some h_2
theorem QQ_X12_saysIn_187 {z : mG} {x1 : Int32} {x2 : Int32} {x6 : Int32} {s : mG} (h : KQw z s) : pk (F_X12_saysIn_187 x1 x2 x6 s) (se (fun τ => KQw z τ.2.2.2) (fun τ => KQw z τ.2)) := by
  unfold F_X12_saysIn_187
  exact pk_some h
theorem QQ_X12_saysIn_B113 {z : mG} {x1 : Int32} {x2 : Int32} {x6 : Int32} {s : mG} (h : KQw z s) : pk (F_X12_saysIn_B113 x1 x2 x6 s) (se (fun τ => KQw z τ.2.2.2) (fun τ => KQw z τ.2)) := by
  unfold F_X12_saysIn_B113
  refine pk_ite ?_ ?_
  · refine pk_b1 pk_top (fun _ _ => ?_)
    exact pk_some h
  · refine pk_nn ?_
    refine pk_ite ?_ ?_
    · refine pk_b2 (QQ_X12_isSo h) (fun _ s_1 (h_2 : KQw z s_1) => ?_)
      refine pk_ite ?_ ?_
      · exact (QQ_X12_saysIn_187 h_2)
      · refine pk_nn ?_
        refine pk_nn ?_
        refine pk_b2 (QQ_X12_comesTo h_2) (fun _ s_3 (h_4 : KQw z s_3) => ?_)
        refine pk_b1 pk_top (fun _ _ => ?_)
        refine pk_b1 pk_top (fun _ _ => ?_)
        exact pk_some h_4
    · exact (QQ_X12_saysIn_187 h)
theorem QQ_X12_saysIn_L113 {z : mG} {x1 : Int32} {x2 : Int32} {x6 : Int32} {s : mG} (h : KQw z s) : pk (F_X12_saysIn_L113 x1 x2 x6 s) (fun τ => KQw z τ.2) := by
  unfold F_X12_saysIn_L113
  refine pk_whl (fun v => KQw z v.2.2.2) h (fun v hv => ?_)
  obtain ⟨y0, y1, y2, y3⟩ := v
  exact QQ_X12_saysIn_B113 hv
theorem QQ_X12_saysIn_100 {z : mG} {x1 : Int32} {x2 : Int32} {x5 : Int32} {y1 : Int32} {y2 : Int32} {s : mG} (h : KQw z s) : pk (F_X12_saysIn_100 x1 x2 x5 y1 y2 s) (fun τ => KQw z τ.2) := by
  unfold F_X12_saysIn_100
  refine pk_nn ?_
  extract_lets +onlyGivenNames s_1
  have h_2 : KQw z s_1 := KQw_mu h (Or.inl (by decide))
  clear_value s_1
  extract_lets +onlyGivenNames s_3
  have h_4 : KQw z s_3 := KQw_mu h_2 (Or.inl (by decide))
  clear_value s_3
  exact (QQ_X12_saysIn_L113 h_4)
theorem QQ_X12_saysIn {z : mG} {a1 : Int32} {a2 : Int32} {a3 : Int32} {a4 : Int32} {a5 : Int32} {s : mG} (h : KQw z s) : pk (F_X12_saysIn a1 a2 a3 a4 a5 s) (fun τ => KQw z τ.2) := by
  unfold F_X12_saysIn
  extract_lets +onlyGivenNames s_1
  have h_2 : KQw z s_1 := KQw_mu h (Or.inl (by decide))
  clear_value s_1
  refine pk_nn ?_
  extract_lets +onlyGivenNames s_3
  have h_4 : KQw z s_3 := KQw_mu h_2 (Or.inl (by decide))
  clear_value s_3
  refine pk_nn ?_
  extract_lets +onlyGivenNames s_5
  have h_6 : KQw z s_5 := KQw_mu h_4 (Or.inl (by decide))
  clear_value s_5
  extract_lets +onlyGivenNames s_7
  have h_8 : KQw z s_7 := KQw_mu h_6 (Or.inl (by decide))
  clear_value s_7
  extract_lets +onlyGivenNames s_9
  have h_10 : KQw z s_9 := KQw_mu h_8 (Or.inl (by decide))
  clear_value s_9
  extract_lets +onlyGivenNames s_11
  have h_12 : KQw z s_11 := KQw_mu h_10 (Or.inl (by decide))
  clear_value s_11
  extract_lets +onlyGivenNames s_13
  have h_14 : KQw z s_13 := KQw_mu h_12 (Or.inl (by decide))
  clear_value s_13
  refine pk_b1 pk_top (fun _ _ => ?_)
  refine pk_ite ?_ ?_
  · exact (QQ_X12_saysIn_100 h_14)
  · exact (QQ_X12_saysIn_100 h_14)
theorem QQ_X12_saysNow {z : mG} {a1 : Int32} {a2 : Int32} {s : mG} (h : KQw z s) : pk (F_X12_saysNow a1 a2 s) (fun τ => KQw z τ.2) := by
  unfold F_X12_saysNow
  refine pk_nn ?_
  refine pk_b2 (QQ_X12_saysIn h) (fun _ s_1 (h_2 : KQw z s_1) => ?_)
  exact pk_some h_2
theorem QQ_X12_keeps_B51 {z : mG} {x1 : Int32} {s : mG} (h : KQw z s) : pk (F_X12_keeps_B51 x1 s) (se (fun τ => KQw z τ.2) (fun τ => KQw z τ)) := by
  unfold F_X12_keeps_B51
  refine pk_ite ?_ ?_
  · extract_lets +onlyGivenNames s_1
    have h_2 : KQw z s_1 := KQw_mu h (Or.inr (by decide))
    clear_value s_1
    exact pk_some h_2
  · refine pk_nn ?_
    refine pk_nn ?_
    extract_lets +onlyGivenNames s_3
    have h_4 : KQw z s_3 := KQw_mu h (Or.inl (by decide))
    clear_value s_3
    exact pk_some h_4
theorem QQ_X12_keeps_L51 {z : mG} {x1 : Int32} {s : mG} (h : KQw z s) : pk (F_X12_keeps_L51 x1 s) (fun τ => KQw z τ) := by
  unfold F_X12_keeps_L51
  refine pk_whl (fun v => KQw z v.2) h (fun v hv => ?_)
  obtain ⟨y0, y1⟩ := v
  exact QQ_X12_keeps_B51 hv
theorem QQ_X12_keeps_49 {z : mG} {s : mG} (h : KQw z s) : pk (F_X12_keeps_49 s) (fun τ => KQw z τ) := by
  unfold F_X12_keeps_49
  exact (QQ_X12_keeps_L51 h)
theorem QQ_X12_keeps_B11 {z : mG} {x1 : Int32} {s : mG} (h : KQw z s) : pk (F_X12_keeps_B11 x1 s) (se (fun τ => KQw z τ.2) (fun τ => KQw z τ)) := by
  unfold F_X12_keeps_B11
  refine pk_ite ?_ ?_
  · extract_lets +onlyGivenNames s_1
    have h_2 : KQw z s_1 := KQw_mu h (Or.inr (by decide))
    clear_value s_1
    refine pk_b1r ?_
    exact (QQ_X12_keeps_49 h_2)
  · refine pk_nn ?_
    refine pk_nn ?_
    extract_lets +onlyGivenNames s_3
    have h_4 : KQw z s_3 := KQw_mu h (Or.inl (by decide))
    clear_value s_3
    exact pk_some h_4
theorem QQ_X12_keeps_L11 {z : mG} {x1 : Int32} {s : mG} (h : KQw z s) : pk (F_X12_keeps_L11 x1 s) (fun τ => KQw z τ) := by
  unfold F_X12_keeps_L11
  refine pk_whl (fun v => KQw z v.2) h (fun v hv => ?_)
  obtain ⟨y0, y1⟩ := v
  exact QQ_X12_keeps_B11 hv
theorem QQ_X12_keeps {z : mG} {s : mG} (h : KQw z s) : pk (F_X12_keeps s) (fun τ => KQw z τ) := by
  unfold F_X12_keeps
  refine pk_ite ?_ ?_
  · exact (QQ_X12_keeps_L11 h)
  · exact (QQ_X12_keeps_49 h)
theorem QQ_X12_undo_B21 {z : mG} {x1 : Int32} {s : mG} (h : KQw z s) : pk (F_X12_undo_B21 x1 s) (se (fun τ => KQw z τ.2) (fun τ => KQw z τ.2)) := by
  unfold F_X12_undo_B21
  refine pk_ite ?_ ?_
  · exact pk_some h
  · refine pk_nn ?_
    refine pk_nn ?_
    extract_lets +onlyGivenNames s_1
    have h_2 : KQw z s_1 := KQw_mu h (Or.inl (by decide))
    clear_value s_1
    exact pk_some h_2
theorem QQ_X12_undo_L21 {z : mG} {x1 : Int32} {s : mG} (h : KQw z s) : pk (F_X12_undo_L21 x1 s) (fun τ => KQw z τ.2) := by
  unfold F_X12_undo_L21
  refine pk_whl (fun v => KQw z v.2) h (fun v hv => ?_)
  obtain ⟨y0, y1⟩ := v
  exact QQ_X12_undo_B21 hv
theorem QQ_X12_undo {z : mG} {s : mG} (h : KQw z s) : pk (F_X12_undo s) (fun τ => KQw z τ.2) := by
  unfold F_X12_undo
  refine pk_ite ?_ ?_
  · exact pk_some h
  · extract_lets +onlyGivenNames s_1
    have h_2 : KQw z s_1 := KQw_mu h (Or.inr (by decide))
    clear_value s_1
    exact (QQ_X12_undo_L21 h_2)
theorem QQ_X12_notes {z : mG} {a1 : Int32} {a2 : Int32} {a3 : Int32} {a4 : Int32} {s : mG} (h : KQw z s) : pk (F_X12_notes a1 a2 a3 a4 s) (fun τ => KQw z τ) := by
  unfold F_X12_notes
  refine pk_ite ?_ ?_
  · exact pk_some h
  · extract_lets +onlyGivenNames v_1
    clear_value v_1
    refine pk_nn ?_
    extract_lets +onlyGivenNames s_2
    have h_3 : KQw z s_2 := KQw_mu h (Or.inl (by decide))
    clear_value s_2
    refine pk_nn ?_
    extract_lets +onlyGivenNames s_4
    have h_5 : KQw z s_4 := KQw_mu h_3 (Or.inl (by decide))
    clear_value s_4
    refine pk_nn ?_
    extract_lets +onlyGivenNames s_6
    have h_7 : KQw z s_6 := KQw_mu h_5 (Or.inl (by decide))
    clear_value s_6
    refine pk_nn ?_
    extract_lets +onlyGivenNames s_8
    have h_9 : KQw z s_8 := KQw_mu h_7 (Or.inl (by decide))
    clear_value s_8
    refine pk_nn ?_
    extract_lets +onlyGivenNames s_10
    have h_11 : KQw z s_10 := KQw_mu h_9 (Or.inl (by decide))
    clear_value s_10
    extract_lets +onlyGivenNames s_12
    have h_13 : KQw z s_12 := KQw_mu h_11 (Or.inl (by decide))
    clear_value s_12
    exact pk_some h_13
theorem QQ_X12_hangsOn_62 {z : mG} {x1 : Int32} {s : mG} (h : KQw z s) : pk (F_X12_hangsOn_62 x1 s) (fun τ => KQw z τ.2) := by
  unfold F_X12_hangsOn_62
  refine pk_b1 pk_top (fun _ _ => ?_)
  refine pk_ite ?_ ?_
  · exact pk_some h
  · exact pk_some h
theorem QQ_X12_hangsOn_29 {z : mG} {x1 : Int32} {y0 : Int32} {s : mG} (h : KQw z s) : pk (F_X12_hangsOn_29 x1 y0 s) (fun τ => KQw z τ.2) := by
  unfold F_X12_hangsOn_29
  refine pk_nn ?_
  extract_lets +onlyGivenNames v_1
  clear_value v_1
  refine pk_ite ?_ ?_
  · exact (QQ_X12_hangsOn_62 h)
  · refine pk_b1 pk_top (fun _ _ => ?_)
    refine pk_ite ?_ ?_
    · exact pk_some h
    · exact (QQ_X12_hangsOn_62 h)
theorem QQ_X12_hangsOn {z : mG} {a1 : Int32} {a2 : Int32} {a3 : Int32} {s : mG} (h : KQw z s) : pk (F_X12_hangsOn a1 a2 a3 s) (fun τ => KQw z τ.2) := by
  unfold F_X12_hangsOn
  refine pk_b2 (QQ_X12_draw h) (fun _ s_1 (h_2 : KQw z s_1) => ?_)
  refine pk_ite ?_ ?_
  · refine pk_b2 (QQ_X12_draw h_2) (fun _ s_3 (h_4 : KQw z s_3) => ?_)
    refine pk_ite ?_ ?_
    · exact (QQ_X12_hangsOn_29 h_4)
    · exact (QQ_X12_hangsOn_29 h_4)
  · exact pk_some h_2
theorem QQ_X12_isMoved_147 {z : mG} {x1 : Int32} {x7 : Int32} {y1 : Int32} {s : mG} (h : KQw z s) : pk (F_X12_isMoved_147 x1 x7 y1 s) (fun τ => KQw z τ.2) := by
  unfold F_X12_isMoved_147
  refine pk_b1 pk_top (fun _ _ => ?_)
  refine pk_b1 (QQ_X12_notes h) (fun s_1 (h_2 : KQw z s_1) => ?_)
  exact pk_some h_2
theorem QQ_X12_isMoved_136 {z : mG} {x1 : Int32} {x2 : Int32} {x7 : Int32} {y1 : Int32} {y2 : Int32} {s : mG} (h : KQw z s) : pk (F_X12_isMoved_136 x1 x2 x7 y1 y2 s) (fun τ => KQw z τ.2) := by
  unfold F_X12_isMoved_136
  refine pk_nn ?_
  extract_lets +onlyGivenNames s_1
  have h_2 : KQw z s_1 := KQw_mu h (Or.inl (by decide))
  clear_value s_1
  refine pk_ite ?_ ?_
  · exact (QQ_X12_isMoved_147 h_2)
  · exact (QQ_X12_isMoved_147 h_2)
theorem QQ_X12_isMoved_110 {z : mG} {x1 : Int32} {x2 : Int32} {x5 : Int32} {x6 : Int32} {x7 : Int32} {y1 : Int32} {y2 : Int32} {s : mG} (h : KQw z s) : pk (F_X12_isMoved_110 x1 x2 x5 x6 x7 y1 y2 s) (fun τ => KQw z τ.2) := by
  unfold F_X12_isMoved_110
  refine pk_nn ?_
  extract_lets +onlyGivenNames s_1
  have h_2 : KQw z s_1 := KQw_mu h (Or.inl (by decide))
  clear_value s_1
  refine pk_ite ?_ ?_
  · refine pk_b2 (QQ_X12_hangsOn h_2) (fun _ s_3 (h_4 : KQw z s_3) => ?_)
    exact (QQ_X12_isMoved_136 h_4)
  · exact (QQ_X12_isMoved_136 h_2)
theorem QQ_X12_isMoved_92 {z : mG} {x1 : Int32} {x2 : Int32} {x5 : Int32} {x6 : Int32} {y0 : Int32} {s : mG} (h : KQw z s) : pk (F_X12_isMoved_92 x1 x2 x5 x6 y0 s) (fun τ => KQw z τ.2) := by
  unfold F_X12_isMoved_92
  refine pk_ite ?_ ?_
  · exact (QQ_X12_isMoved_110 h)
  · exact (QQ_X12_isMoved_110 h)
theorem QQ_X12_isMoved_30 {z : mG} {x1 : Int32} {x2 : Int32} {y1 : Int32} {s : mG} (h : KQw z s) : pk (F_X12_isMoved_30 x1 x2 y1 s) (fun τ => KQw z τ.2) := by
  unfold F_X12_isMoved_30
  refine pk_b2 (QQ_X12_saysNow h) (fun _ s_1 (h_2 : KQw z s_1) => ?_)
  refine pk_b2 (QQ_X12_saysNow h_2) (fun _ s_3 (h_4 : KQw z s_3) => ?_)
  refine pk_b2 (QQ_X12_saysNow h_4) (fun _ s_5 (h_6 : KQw z s_5) => ?_)
  refine pk_b2 (QQ_X12_saysNow h_6) (fun _ s_7 (h_8 : KQw z s_7) => ?_)
  refine pk_b2 (QQ_X12_draw h_8) (fun _ s_9 (h_10 : KQw z s_9) => ?_)
  refine pk_ite ?_ ?_
  · refine pk_b2 (QQ_X12_draw h_10) (fun _ s_11 (h_12 : KQw z s_11) => ?_)
    refine pk_ite ?_ ?_
    · exact (QQ_X12_isMoved_92 h_12)
    · exact (QQ_X12_isMoved_92 h_12)
  · exact pk_some h_10
theorem QQ_X12_isMoved_17 {z : mG} {x1 : Int32} {y0 : Int32} {s : mG} (h : KQw z s) : pk (F_X12_isMoved_17 x1 y0 s) (fun τ => KQw z τ.2) := by
  unfold F_X12_isMoved_17
  refine pk_ite ?_ ?_
  · exact (QQ_X12_isMoved_30 h)
  · exact (QQ_X12_isMoved_30 h)
theorem QQ_X12_isMoved {z : mG} {a1 : Int32} {s : mG} (h : KQw z s) : pk (F_X12_isMoved a1 s) (fun τ => KQw z τ.2) := by
  unfold F_X12_isMoved
  refine pk_nn ?_
  refine pk_ite ?_ ?_
  · exact (QQ_X12_isMoved_17 h)
  · exact (QQ_X12_isMoved_17 h)
theorem QQ_X12_anHour_65 {z : mG} {x2 : Int32} {y0 : Int32} {y1 : Int32} {s : mG} (h : KQw z s) : pk (F_X12_anHour_65 x2 y0 y1 s) (se (fun τ => KQw z τ.2.2) (fun τ => KQw z τ.2)) := by
  unfold F_X12_anHour_65
  exact pk_some h
theorem QQ_X12_anHour_54 {z : mG} {x1 : Int32} {x2 : Int32} {x3 : Int32} {y1 : Int32} {y2 : Int32} {s : mG} (h : KQw z s) : pk (F_X12_anHour_54 x1 x2 x3 y1 y2 s) (se (fun τ => KQw z τ.2.2) (fun τ => KQw z τ.2)) := by
  unfold F_X12_anHour_54
  refine pk_nn ?_
  extract_lets +onlyGivenNames s_1
  have h_2 : KQw z s_1 := KQw_mu h (Or.inl (by decide))
  clear_value s_1
  refine pk_ite ?_ ?_
  · exact (QQ_X12_anHour_65 h_2)
  · exact (QQ_X12_anHour_65 h_2)
theorem QQ_X12_anHour_B4 {z : mG} {x1 : Int32} {x2 : Int32} {s : mG} (h : KQw z s) : pk (F_X12_anHour_B4 x1 x2 s) (se (fun τ => KQw z τ.2.2) (fun τ => KQw z τ.2)) := by
  unfold F_X12_anHour_B4
  refine pk_ite ?_ ?_
  · extract_lets +onlyGivenNames s_1
    have h_2 : KQw z s_1 := KQw_mu h (Or.inl (by decide))
    clear_value s_1
    exact pk_some h_2
  · refine pk_b2 (QQ_X12_isMoved h) (fun _ s_3 (h_4 : KQw z s_3) => ?_)
    refine pk_ite ?_ ?_
    · refine pk_nn ?_
      refine pk_b1 pk_top (fun _ _ => ?_)
      exact (QQ_X12_anHour_54 h_4)
    · exact (QQ_X12_anHour_54 h_4)
theorem QQ_X12_anHour_L4 {z : mG} {x1 : Int32} {x2 : Int32} {s : mG} (h : KQw z s) : pk (F_X12_anHour_L4 x1 x2 s) (fun τ => KQw z τ.2) := by
  unfold F_X12_anHour_L4
  refine pk_whl (fun v => KQw z v.2.2) h (fun v hv => ?_)
  obtain ⟨y0, y1, y2⟩ := v
  exact QQ_X12_anHour_B4 hv
theorem QQ_X12_anHour {z : mG} {s : mG} (h : KQw z s) : pk (F_X12_anHour s) (fun τ => KQw z τ.2) := by
  unfold F_X12_anHour
  exact (QQ_X12_anHour_L4 h)
theorem QQ_X12_hours_24 {z : mG} {s : mG} (h : KQw z s) : pk (F_X12_hours_24 s) (fun τ => KQw z τ.2) := by
  unfold F_X12_hours_24
  exact pk_some h
theorem QQ_X12_hours_B30 {z : mG} {x1 : Int32} {x2 : Int32} {x3 : Int32} {s : mG} (h : KQw z s) : pk (F_X12_hours_B30 x1 x2 x3 s) (se (fun τ => KQw z τ.2.2.2) (fun τ => KQw z τ.2)) := by
  unfold F_X12_hours_B30
  refine pk_ite ?_ ?_
  · exact pk_some h
  · refine pk_b1 (QQ_X12_keeps h) (fun s_1 (h_2 : KQw z s_1) => ?_)
    refine pk_b2 (QQ_X12_anHour h_2) (fun _ s_3 (h_4 : KQw z s_3) => ?_)
    exact pk_some h_4
theorem QQ_X12_hours_L30 {z : mG} {x1 : Int32} {x2 : Int32} {x3 : Int32} {s : mG} (h : KQw z s) : pk (F_X12_hours_L30 x1 x2 x3 s) (fun τ => KQw z τ.2) := by
  unfold F_X12_hours_L30
  refine pk_whl (fun v => KQw z v.2.2.2) h (fun v hv => ?_)
  obtain ⟨y0, y1, y2, y3⟩ := v
  exact QQ_X12_hours_B30 hv
theorem QQ_X12_hours {z : mG} {a1 : Int32} {s : mG} (h : KQw z s) : pk (F_X12_hours a1 s) (fun τ => KQw z τ.2) := by
  unfold F_X12_hours
  refine pk_b1 pk_top (fun _ _ => ?_)
  refine pk_ite ?_ ?_
  · exact (QQ_X12_hours_24 h)
  · refine pk_ite ?_ ?_
    · exact (QQ_X12_hours_L30 h)
    · exact (QQ_X12_hours_24 h)
theorem QQ_X12_hang_36 {z : mG} {s : mG} (h : KQw z s) : pk (F_X12_hang_36 s) (fun τ => KQw z τ.2) := by
  unfold F_X12_hang_36
  exact pk_some h
theorem QQ_X12_hang {z : mG} {a1 : Int32} {a2 : Int32} {s : mG} (h : KQw z s) : pk (F_X12_hang a1 a2 s) (fun τ => KQw z τ.2) := by
  unfold F_X12_hang
  refine pk_b1 pk_top (fun _ _ => ?_)
  refine pk_ite ?_ ?_
  · exact (QQ_X12_hang_36 h)
  · refine pk_b1 pk_top (fun _ _ => ?_)
    refine pk_ite ?_ ?_
    · exact (QQ_X12_hang_36 h)
    · refine pk_nn ?_
      refine pk_ite ?_ ?_
      · exact (QQ_X12_hang_36 h)
      · refine pk_b1 pk_top (fun _ _ => ?_)
        refine pk_ite ?_ ?_
        · refine pk_b1 (QQ_X12_keeps h) (fun s_1 (h_2 : KQw z s_1) => ?_)
          refine pk_nn ?_
          extract_lets +onlyGivenNames s_3
          have h_4 : KQw z s_3 := KQw_mu h_2 (Or.inl (by decide))
          clear_value s_3
          refine pk_b1 (QQ_X12_notes h_4) (fun s_5 (h_6 : KQw z s_5) => ?_)
          exact pk_some h_6
        · exact (QQ_X12_hang_36 h)
theorem QQ_X12_looks_43 {z : mG} {s : mG} (h : KQw z s) : pk (F_X12_looks_43 s) (fun τ => KQw z τ.2) := by
  unfold F_X12_looks_43
  exact pk_some h
theorem QQ_X12_looks {z : mG} {a1 : Int32} {a2 : Int32} {a3 : Int32} {s : mG} (h : KQw z s) : pk (F_X12_looks a1 a2 a3 s) (fun τ => KQw z τ.2) := by
  unfold F_X12_looks
  refine pk_b1 pk_top (fun _ _ => ?_)
  refine pk_ite ?_ ?_
  · exact (QQ_X12_looks_43 h)
  · refine pk_b1 pk_top (fun _ _ => ?_)
    refine pk_ite ?_ ?_
    · exact (QQ_X12_looks_43 h)
    · refine pk_b1 pk_top (fun _ _ => ?_)
      refine pk_ite ?_ ?_
      · exact (QQ_X12_looks_43 h)
      · refine pk_nn ?_
        refine pk_ite ?_ ?_
        · exact (QQ_X12_looks_43 h)
        · refine pk_b1 (QQ_X12_keeps h) (fun s_1 (h_2 : KQw z s_1) => ?_)
          refine pk_nn ?_
          extract_lets +onlyGivenNames s_3
          have h_4 : KQw z s_3 := KQw_mu h_2 (Or.inl (by decide))
          clear_value s_3
          exact pk_some h_4
theorem QQ_X12_sureOf_70 {z : mG} {x1 : Int32} {x2 : Int64} {x4 : Int32} {s : mG} (h : KQw z s) : pk (F_X12_sureOf_70 x1 x2 x4 s) (se (fun τ => KQw z τ.2.2.2) (fun τ => KQw z τ.2)) := by
  unfold F_X12_sureOf_70
  exact pk_some h
theorem QQ_X12_sureOf_B16 {z : mG} {x1 : Int32} {x2 : Int64} {x4 : Int32} {s : mG} (h : KQw z s) : pk (F_X12_sureOf_B16 x1 x2 x4 s) (se (fun τ => KQw z τ.2.2.2) (fun τ => KQw z τ.2)) := by
  unfold F_X12_sureOf_B16
  refine pk_ite ?_ ?_
  · exact pk_some h
  · refine pk_nn ?_
    refine pk_ite ?_ ?_
    · exact (QQ_X12_sureOf_70 h)
    · refine pk_nn ?_
      refine pk_b1 pk_top (fun _ _ => ?_)
      exact (QQ_X12_sureOf_70 h)
theorem QQ_X12_sureOf_L16 {z : mG} {x1 : Int32} {x2 : Int64} {x4 : Int32} {s : mG} (h : KQw z s) : pk (F_X12_sureOf_L16 x1 x2 x4 s) (fun τ => KQw z τ.2) := by
  unfold F_X12_sureOf_L16
  refine pk_whl (fun v => KQw z v.2.2.2) h (fun v hv => ?_)
  obtain ⟨y0, y1, y2, y3⟩ := v
  exact QQ_X12_sureOf_B16 hv
theorem QQ_X12_sureOf {z : mG} {a1 : Int32} {s : mG} (h : KQw z s) : pk (F_X12_sureOf a1 s) (fun τ => KQw z τ.2) := by
  unfold F_X12_sureOf
  refine pk_b2 (QQ_X12_saysNow h) (fun _ s_1 (h_2 : KQw z s_1) => ?_)
  extract_lets +onlyGivenNames v_3
  clear_value v_3
  exact (QQ_X12_sureOf_L16 h_2)
theorem QQ_X12_next {z : mG} {a1 : Int32} {s : mG} (h : KQw z s) : pk (F_X12_next a1 s) (fun τ => KQw z τ.2) := by
  unfold F_X12_next
  refine pk_b1 pk_top (fun _ _ => ?_)
  refine pk_ite ?_ ?_
  · exact pk_some h
  · refine pk_b2 (QQ_X12_sureOf h) (fun _ s_1 (h_2 : KQw z s_1) => ?_)
    refine pk_b1 pk_top (fun _ _ => ?_)
    refine pk_b1 pk_top (fun _ _ => ?_)
    exact pk_some h_2
theorem QQ_X12_looksAt_98 {z : mG} {x2 : Int32} {x6 : Int32} {s : mG} (h : KQw z s) : pk (F_X12_looksAt_98 x2 x6 s) (fun τ => KQw z τ.2) := by
  unfold F_X12_looksAt_98
  refine pk_ite ?_ ?_
  · exact pk_some h
  · exact pk_some h
theorem QQ_X12_looksAt_70 {z : mG} {x2 : Int32} {x5 : Int32} {x6 : Int32} {x7 : Int32} {y1 : Int64} {y2 : Int32} {y3 : Int32} {s : mG} (h : KQw z s) : pk (F_X12_looksAt_70 x2 x5 x6 x7 y1 y2 y3 s) (se (fun τ => KQw z τ.2.2.2.2.2) (fun τ => KQw z τ.2)) := by
  unfold F_X12_looksAt_70
  refine pk_b1 pk_top (fun _ _ => ?_)
  extract_lets +onlyGivenNames v_1
  clear_value v_1
  refine pk_b1 pk_top (fun _ _ => ?_)
  exact pk_some h
theorem QQ_X12_looksAt_B35 {z : mG} {x2 : Int32} {x3 : Int64} {x5 : Int32} {x6 : Int32} {x7 : Int32} {s : mG} (h : KQw z s) : pk (F_X12_looksAt_B35 x2 x3 x5 x6 x7 s) (se (fun τ => KQw z τ.2.2.2.2.2) (fun τ => KQw z τ.2)) := by
  unfold F_X12_looksAt_B35
  refine pk_ite ?_ ?_
  · refine pk_b1r ?_
    exact (QQ_X12_looksAt_98 h)
  · refine pk_ite ?_ ?_
    · refine pk_b1r ?_
      exact (QQ_X12_looksAt_98 h)
    · refine pk_b1 pk_top (fun _ _ => ?_)
      refine pk_ite ?_ ?_
      · exact (QQ_X12_looksAt_70 h)
      · exact (QQ_X12_looksAt_70 h)
theorem QQ_X12_looksAt_L35 {z : mG} {x2 : Int32} {x3 : Int64} {x5 : Int32} {x6 : Int32} {x7 : Int32} {s : mG} (h : KQw z s) : pk (F_X12_looksAt_L35 x2 x3 x5 x6 x7 s) (fun τ => KQw z τ.2) := by
  unfold F_X12_looksAt_L35
  refine pk_whl (fun v => KQw z v.2.2.2.2.2) h (fun v hv => ?_)
  obtain ⟨y0, y1, y2, y3, y4, y5⟩ := v
  exact QQ_X12_looksAt_B35 hv
theorem QQ_X12_looksAt {z : mG} {a1 : Int32} {a2 : Int32} {s : mG} (h : KQw z s) : pk (F_X12_looksAt a1 a2 s) (fun τ => KQw z τ.2) := by
  unfold F_X12_looksAt
  refine pk_b1 pk_top (fun _ _ => ?_)
  refine pk_ite ?_ ?_
  · exact pk_some h
  · refine pk_b2 (QQ_X12_sureOf h) (fun _ s_1 (h_2 : KQw z s_1) => ?_)
    refine pk_b1 pk_top (fun _ _ => ?_)
    refine pk_b1 pk_top (fun _ _ => ?_)
    exact (QQ_X12_looksAt_L35 h_2)
end
