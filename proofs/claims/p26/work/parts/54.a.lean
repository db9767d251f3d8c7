noncomputable section
/-! X10_at: by hand -/
theorem T_X0_glanceAt {a1 : Int32} {s : mG} (hI : IC s) : ok (F_X0_glanceAt a1 s) (RC true s) := by
  have hR : RC true s s := RC_refl hI
  unfold F_X0_glanceAt
  unfold F_X0_glanceAt_L2
  refine ok_whl (fun v => a1 = v.1 ∧ RC true s v.2.2 ∧ ¬ v.2.1 < 0) (fun v => mUp v.2.1) ⟨rfl, hR, nn0⟩ (fun v hv => ?_)
  obtain ⟨x_3, x_4, s_5⟩ := v
  obtain ⟨rfl, rhs_6, rhn_7⟩ := hv
  have hs_6 : RC true s s_5 := rhs_6
  have hn_7 : ¬ x_4 < 0 := rhn_7
  show ok (F_X0_glanceAt_B2 a1 x_4 s_5) _
  unfold F_X0_glanceAt_B2
  refine ok_ite (fun h_8 => ?_) (fun h_9 => ?_)
  · exact ok_some (lp_inr (hs_6))
  · refine ok_b1 (T_X10_at isT_2 hs_6.1) (fun v_10 _ => ?_)
    refine ok_nn (idx_ok (by decide) hn_7 h_9) ?_
    extract_lets +onlyGivenNames s_12
    have hs_13 : RC true s s_12 := (RC_mw hs_6 (by decide))
    clear_value s_12
    exact ok_some (lp_inl ⟨rfl, hs_13, (up_nn hn_7 (ge_t h_9))⟩ (up_t (ge_t h_9)))
theorem T_X0_sureAfter {s : mG} {a1 : Int32} {a2 : Int32} {a3 : Int32} (hI : IC s) : ok (F_X0_sureAfter s a1 a2 a3) PT := by
  have hR : RC true s s := RC_refl hI
  unfold F_X0_sureAfter
  refine ok_b1 (T_X10_at isT_10 hR.1) (fun v_1 _ => ?_)
  refine ok_b1 (T_X10_at isT_10 hR.1) (fun v_3 _ => ?_)
  refine ok_ite (fun h_5 => ?_) (fun h_6 => ?_)
  · unfold F_X0_sureAfter_47
    refine ok_ite (fun h_7 => ?_) (fun h_8 => ?_)
    · unfold F_X0_sureAfter_70
      refine ok_ite (fun h_9 => ?_) (fun h_10 => ?_)
      · exact ok_some trivial
      · refine ok_nn (lgc_ne h_10) ?_
        exact ok_some trivial
    · unfold F_X0_sureAfter_70
      refine ok_ite (fun h_11 => ?_) (fun h_12 => ?_)
      · exact ok_some trivial
      · refine ok_nn (lgc_ne h_12) ?_
        exact ok_some trivial
  · unfold F_X0_sureAfter_47
    refine ok_ite (fun h_13 => ?_) (fun h_14 => ?_)
    · unfold F_X0_sureAfter_70
      refine ok_ite (fun h_15 => ?_) (fun h_16 => ?_)
      · exact ok_some trivial
      · refine ok_nn (lgc_ne h_16) ?_
        exact ok_some trivial
    · unfold F_X0_sureAfter_70
      refine ok_ite (fun h_17 => ?_) (fun h_18 => ?_)
      · exact ok_some trivial
      · refine ok_nn (lgc_ne h_18) ?_
        exact ok_some trivial
/-! X11_put: by hand -/
theorem T_X3_supposeHour {a1 : Int32} {s : mG} (hI : IC s) : ok (F_X3_supposeHour a1 s) (RC true s) := by
  have hR : RC true s s := RC_refl hI
  unfold F_X3_supposeHour
  refine ok_b1 (ok_tr hR (T_X11_put sh69 (by decide) hR.1)) (fun s_1 (hs_2 : RC true s s_1) => ?_)
  refine ok_b1 (ok_tr hs_2 (T_X11_put sh69 (by decide) hs_2.1)) (fun s_3 (hs_4 : RC true s s_3) => ?_)
  exact ok_some hs_4
theorem T_X3_face {a1 : Int32} {s : mG} (hI : IC s) : ok (F_X3_face a1 s) (RC true s) := by
  have hR : RC true s s := RC_refl hI
  unfold F_X3_face
  refine ok_b1 (ok_tr hR (T_X11_put sh69 (by decide) hR.1)) (fun s_1 (hs_2 : RC true s s_1) => ?_)
  refine ok_b1 (T_X10_at isT_2 hs_2.1) (fun v_3 _ => ?_)
  refine ok_b1 (ok_tr hs_2 (T_X11_put sh69 (by decide) hs_2.1)) (fun s_5 (hs_6 : RC true s s_5) => ?_)
  refine ok_b1 (T_X10_at isT_2 hs_6.1) (fun v_7 _ => ?_)
  refine ok_b1 (ok_tr hs_6 (T_X11_put sh69 (by decide) hs_6.1)) (fun s_9 (hs_10 : RC true s s_9) => ?_)
  refine ok_b1 (ok_tr hs_10 (T_X11_put sh69 (by decide) hs_10.1)) (fun s_11 (hs_12 : RC true s s_11) => ?_)
  refine ok_b1 (ok_tr hs_12 (T_X11_put sh69 (by decide) hs_12.1)) (fun s_13 (hs_14 : RC true s s_13) => ?_)
  refine ok_b1 (T_X10_at isT_2 hs_14.1) (fun v_15 _ => ?_)
  refine ok_ite (fun h_17 => ?_) (fun h_18 => ?_)
  · unfold F_X3_face_107
    refine ok_b1 (ok_tr hs_14 (T_X11_put sh69 (by decide) hs_14.1)) (fun s_19 (hs_20 : RC true s s_19) => ?_)
    refine ok_b1 (T_X10_at isT_2 hs_20.1) (fun v_21 _ => ?_)
    refine ok_b1 (ok_tr hs_20 (T_X11_put sh69 (by decide) hs_20.1)) (fun s_23 (hs_24 : RC true s s_23) => ?_)
    refine ok_b1 (ok_tr hs_24 (T_X3_supposeHour hs_24.1)) (fun s_25 (hs_26 : RC true s s_25) => ?_)
    exact ok_some hs_26
  · unfold F_X3_face_107
    refine ok_b1 (ok_tr hs_14 (T_X11_put sh69 (by decide) hs_14.1)) (fun s_27 (hs_28 : RC true s s_27) => ?_)
    refine ok_b1 (T_X10_at isT_2 hs_28.1) (fun v_29 _ => ?_)
    refine ok_b1 (ok_tr hs_28 (T_X11_put sh69 (by decide) hs_28.1)) (fun s_31 (hs_32 : RC true s s_31) => ?_)
    refine ok_b1 (ok_tr hs_32 (T_X3_supposeHour hs_32.1)) (fun s_33 (hs_34 : RC true s s_33) => ?_)
    exact ok_some hs_34
theorem T_X3_joined {s : mG} {a1 : Int32} {a2 : Int32} {a3 : Int32} (hI : IC s) : ok (F_X3_joined s a1 a2 a3) PT := by
  have hR : RC true s s := RC_refl hI
  unfold F_X3_joined
  refine ok_ite (fun h_1 => ?_) (fun h_2 => ?_)
  · exact ok_some trivial
  · refine ok_ite (fun h_3 => ?_) (fun h_4 => ?_)
    · exact ok_some trivial
    · refine ok_ite (fun h_5 => ?_) (fun h_6 => ?_)
      · exact ok_some trivial
      · refine ok_ite (fun h_7 => ?_) (fun h_8 => ?_)
        · unfold F_X3_joined_109
          exact ok_some trivial
        · refine ok_ite (fun h_9 => ?_) (fun h_10 => ?_)
          · refine ok_ite (fun h_11 => ?_) (fun h_12 => ?_)
            · exact ok_some trivial
            · exact ok_some trivial
          · refine ok_ite (fun h_13 => ?_) (fun h_14 => ?_)
            · refine ok_ite (fun h_15 => ?_) (fun h_16 => ?_)
              · exact ok_some trivial
              · exact ok_some trivial
            · refine ok_ite (fun h_17 => ?_) (fun h_18 => ?_)
              · refine ok_ite (fun h_19 => ?_) (fun h_20 => ?_)
                · exact ok_some trivial
                · exact ok_some trivial
              · refine ok_ite (fun h_21 => ?_) (fun h_22 => ?_)
                · unfold F_X3_joined_109
                  exact ok_some trivial
                · refine ok_ite (fun h_23 => ?_) (fun h_24 => ?_)
                  · exact ok_some trivial
                  · refine ok_ite (fun h_25 => ?_) (fun h_26 => ?_)
                    · exact ok_some trivial
                    · unfold F_X3_joined_109
                      exact ok_some trivial
/-! X11_cell: by hand -/
theorem T_X3_valueOf {a1 : Int32} {a2 : Int32} {s : mG} (hI : IC s) : ok (F_X3_valueOf a1 a2 s) (fun τ => RC true s τ.2) := by
  have hR : RC true s s := RC_refl hI
  unfold F_X3_valueOf
  unfold F_X3_valueOf_L5
  refine ok_whl (fun v => a2 = v.1 ∧ RC true s v.2.2.2) (fun v => mUp v.2.2.1) ⟨rfl, hR⟩ (fun v hv => ?_)
  obtain ⟨x_32, x_33, x_34, s_35⟩ := v
  obtain ⟨rfl, rhs_36⟩ := hv
  have hs_36 : RC true s s_35 := rhs_36
  show ok (F_X3_valueOf_B5 a2 x_33 x_34 s_35) _
  unfold F_X3_valueOf_B5
  refine ok_ite (fun h_37 => ?_) (fun h_38 => ?_)
  · refine ok_b1 (T_X11_cell sh70 hs_36.1) (fun v_39 _ => ?_)
    exact ok_some (lp_inr (hs_36))
  · refine ok_b1 (T_X10_at isT_8 hs_36.1) (fun v_41 _ => ?_)
    refine ok_b1 (T_X10_at isT_8 hs_36.1) (fun v_43 _ => ?_)
    refine ok_b1 (T_X11_cell sh70 hs_36.1) (fun v_45 _ => ?_)
    refine ok_ite (fun h_47 => ?_) (fun h_48 => ?_)
    · refine ok_b1 (ok_tr hs_36 (T_X11_put sh70 (by decide) hs_36.1)) (fun s_49 (hs_50 : RC true s s_49) => ?_)
      unfold F_X3_valueOf_229
      exact ok_some (lp_inl ⟨rfl, hs_50⟩ (up_t (ge_t h_38)))
    · refine ok_ite (fun h_51 => ?_) (fun h_52 => ?_)
      · refine ok_b1 (T_X11_cell sh69 hs_36.1) (fun v_53 _ => ?_)
        refine ok_b1 (ok_tr hs_36 (T_X11_put sh70 (by decide) hs_36.1)) (fun s_55 (hs_56 : RC true s s_55) => ?_)
        unfold F_X3_valueOf_229
        exact ok_some (lp_inl ⟨rfl, hs_56⟩ (up_t (ge_t h_38)))
      · refine ok_ite (fun h_57 => ?_) (fun h_58 => ?_)
        · unfold F_X3_valueOf_199
          refine ok_b1 (T_X11_cell sh70 hs_36.1) (fun v_59 _ => ?_)
          refine ok_b1 (T_X3_joined hs_36.1) (fun v_61 _ => ?_)
          refine ok_b1 (ok_tr hs_36 (T_X11_put sh70 (by decide) hs_36.1)) (fun s_63 (hs_64 : RC true s s_63) => ?_)
          unfold F_X3_valueOf_229
          exact ok_some (lp_inl ⟨rfl, hs_64⟩ (up_t (ge_t h_38)))
        · refine ok_ite (fun h_65 => ?_) (fun h_66 => ?_)
          · unfold F_X3_valueOf_199
            refine ok_b1 (T_X11_cell sh70 hs_36.1) (fun v_67 _ => ?_)
            refine ok_b1 (T_X3_joined hs_36.1) (fun v_69 _ => ?_)
            refine ok_b1 (ok_tr hs_36 (T_X11_put sh70 (by decide) hs_36.1)) (fun s_71 (hs_72 : RC true s s_71) => ?_)
            unfold F_X3_valueOf_229
            exact ok_some (lp_inl ⟨rfl, hs_72⟩ (up_t (ge_t h_38)))
          · refine ok_ite (fun h_73 => ?_) (fun h_74 => ?_)
            · unfold F_X3_valueOf_199
              refine ok_b1 (T_X11_cell sh70 hs_36.1) (fun v_75 _ => ?_)
              refine ok_b1 (T_X3_joined hs_36.1) (fun v_77 _ => ?_)
              refine ok_b1 (ok_tr hs_36 (T_X11_put sh70 (by decide) hs_36.1)) (fun s_79 (hs_80 : RC true s s_79) => ?_)
              unfold F_X3_valueOf_229
              exact ok_some (lp_inl ⟨rfl, hs_80⟩ (up_t (ge_t h_38)))
            · refine ok_ite (fun h_81 => ?_) (fun h_82 => ?_)
              · refine ok_ite (fun h_83 => ?_) (fun h_84 => ?_)
                · unfold F_X3_valueOf_176
                  refine ok_b1 (ok_tr hs_36 (T_X11_put sh70 (by decide) hs_36.1)) (fun s_85 (hs_86 : RC true s s_85) => ?_)
                  unfold F_X3_valueOf_229
                  exact ok_some (lp_inl ⟨rfl, hs_86⟩ (up_t (ge_t h_38)))
                · refine ok_nn h_84 ?_
                  unfold F_X3_valueOf_176
                  refine ok_b1 (ok_tr hs_36 (T_X11_put sh70 (by decide) hs_36.1)) (fun s_87 (hs_88 : RC true s s_87) => ?_)
                  unfold F_X3_valueOf_229
                  exact ok_some (lp_inl ⟨rfl, hs_88⟩ (up_t (ge_t h_38)))
              · refine ok_ite (fun h_89 => ?_) (fun h_90 => ?_)
                · unfold F_X3_valueOf_199
                  refine ok_b1 (T_X11_cell sh70 hs_36.1) (fun v_91 _ => ?_)
                  refine ok_b1 (T_X3_joined hs_36.1) (fun v_93 _ => ?_)
                  refine ok_b1 (ok_tr hs_36 (T_X11_put sh70 (by decide) hs_36.1)) (fun s_95 (hs_96 : RC true s s_95) => ?_)
                  unfold F_X3_valueOf_229
                  exact ok_some (lp_inl ⟨rfl, hs_96⟩ (up_t (ge_t h_38)))
                · refine ok_ite (fun h_97 => ?_) (fun h_98 => ?_)
                  · unfold F_X3_valueOf_199
                    refine ok_b1 (T_X11_cell sh70 hs_36.1) (fun v_99 _ => ?_)
                    refine ok_b1 (T_X3_joined hs_36.1) (fun v_101 _ => ?_)
                    refine ok_b1 (ok_tr hs_36 (T_X11_put sh70 (by decide) hs_36.1)) (fun s_103 (hs_104 : RC true s s_103) => ?_)
                    unfold F_X3_valueOf_229
                    exact ok_some (lp_inl ⟨rfl, hs_104⟩ (up_t (ge_t h_38)))
                  · refine ok_ite (fun h_105 => ?_) (fun h_106 => ?_)
                    · unfold F_X3_valueOf_199
                      refine ok_b1 (T_X11_cell sh70 hs_36.1) (fun v_107 _ => ?_)
                      refine ok_b1 (T_X3_joined hs_36.1) (fun v_109 _ => ?_)
                      refine ok_b1 (ok_tr hs_36 (T_X11_put sh70 (by decide) hs_36.1)) (fun s_111 (hs_112 : RC true s s_111) => ?_)
                      unfold F_X3_valueOf_229
                      exact ok_some (lp_inl ⟨rfl, hs_112⟩ (up_t (ge_t h_38)))
                    · refine ok_ite (fun h_113 => ?_) (fun h_114 => ?_)
                      · refine ok_b1 (ok_tr hs_36 (T_X11_put sh70 (by decide) hs_36.1)) (fun s_115 (hs_116 : RC true s s_115) => ?_)
                        unfold F_X3_valueOf_229
                        exact ok_some (lp_inl ⟨rfl, hs_116⟩ (up_t (ge_t h_38)))
                      · unfold F_X3_valueOf_199
                        refine ok_b1 (T_X11_cell sh70 hs_36.1) (fun v_117 _ => ?_)
                        refine ok_b1 (T_X3_joined hs_36.1) (fun v_119 _ => ?_)
                        refine ok_b1 (ok_tr hs_36 (T_X11_put sh70 (by decide) hs_36.1)) (fun s_121 (hs_122 : RC true s s_121) => ?_)
                        unfold F_X3_valueOf_229
                        exact ok_some (lp_inl ⟨rfl, hs_122⟩ (up_t (ge_t h_38)))
theorem T_X3_tells {a1 : Int32} {s : mG} (hI : IC s) : ok (F_X3_tells a1 s) (fun τ => RC true s τ.2) := by
  have hR : RC true s s := RC_refl hI
  unfold F_X3_tells
  unfold F_X3_tells_L2
  refine ok_whl (fun v => a1 = v.1 ∧ RC true s v.2.2 ∧ ¬ v.2.1 < 0) (fun v => mUp v.2.1) ⟨rfl, hR, nn0⟩ (fun v hv => ?_)
  obtain ⟨x_10, x_11, s_12⟩ := v
  obtain ⟨rfl, rhs_13, rhn_14⟩ := hv
  have hs_13 : RC true s s_12 := rhs_13
  have hn_14 : ¬ x_11 < 0 := rhn_14
  show ok (F_X3_tells_B2 a1 x_11 s_12) _
  unfold F_X3_tells_B2
  refine ok_ite (fun h_15 => ?_) (fun h_16 => ?_)
  · refine ok_ite (fun h_17 => ?_) (fun h_18 => ?_)
    · refine ok_b1 (T_X11_cell sh69 hs_13.1) (fun v_19 _ => ?_)
      refine ok_ite (fun h_21 => ?_) (fun h_22 => ?_)
      · exact ok_some (lp_inr (hs_13))
      · exact ok_some (lp_inr (hs_13))
    · refine ok_b1 (T_X11_cell_unt hs_13.1) (fun v_23 _ => ?_)
      exact ok_some (lp_inr (hs_13))
  · refine ok_b1 (T_X10_at isT_6 hs_13.1) (fun v_25 _ => ?_)
    refine ok_b1 (T_X10_at isT_6 hs_13.1) (fun v_27 _ => ?_)
    refine ok_b1 (T_X10_at isT_6 hs_13.1) (fun v_29 _ => ?_)
    refine ok_ite (fun h_31 => ?_) (fun h_32 => ?_)
    · unfold F_X3_tells_64
      refine ok_ite (fun h_33 => ?_) (fun h_34 => ?_)
      · unfold F_X3_tells_115
        exact ok_some (lp_inl ⟨rfl, hs_13, (up_nn hn_14 (ge_t h_16))⟩ (up_t (ge_t h_16)))
      · refine ok_ite (fun h_35 => ?_) (fun h_36 => ?_)
        · refine ok_b1r ?_
          unfold F_X3_tells_87
          refine ok_b1 (T_X10_at isT_6 hs_13.1) (fun v_37 _ => ?_)
          refine ok_b2 (ok_tr2 hs_13 (T_X3_valueOf hs_13.1)) (fun v_39 s_40 (hs_41 : RC true s s_40) => ?_)
          extract_lets +onlyGivenNames v_42
          clear_value v_42
          exact ok_some hs_41
        · refine ok_b2 (ok_tr2 hs_13 (T_X3_valueOf hs_13.1)) (fun v_43 s_44 (hs_45 : RC true s s_44) => ?_)
          refine ok_ite (fun h_46 => ?_) (fun h_47 => ?_)
          · unfold F_X3_tells_115
            exact ok_some (lp_inl ⟨rfl, hs_45, (up_nn hn_14 (ge_t h_16))⟩ (up_t (ge_t h_16)))
          · refine ok_b1r ?_
            unfold F_X3_tells_87
            refine ok_b1 (T_X10_at isT_6 hs_45.1) (fun v_48 _ => ?_)
            refine ok_b2 (ok_tr2 hs_45 (T_X3_valueOf hs_45.1)) (fun v_50 s_51 (hs_52 : RC true s s_51) => ?_)
            extract_lets +onlyGivenNames v_53
            clear_value v_53
            exact ok_some hs_52
    · unfold F_X3_tells_64
      refine ok_ite (fun h_54 => ?_) (fun h_55 => ?_)
      · unfold F_X3_tells_115
        exact ok_some (lp_inl ⟨rfl, hs_13, (up_nn hn_14 (ge_t h_16))⟩ (up_t (ge_t h_16)))
      · refine ok_ite (fun h_56 => ?_) (fun h_57 => ?_)
        · refine ok_b1r ?_
          unfold F_X3_tells_87
          refine ok_b1 (T_X10_at isT_6 hs_13.1) (fun v_58 _ => ?_)
          refine ok_b2 (ok_tr2 hs_13 (T_X3_valueOf hs_13.1)) (fun v_60 s_61 (hs_62 : RC true s s_61) => ?_)
          extract_lets +onlyGivenNames v_63
          clear_value v_63
          exact ok_some hs_62
        · refine ok_b2 (ok_tr2 hs_13 (T_X3_valueOf hs_13.1)) (fun v_64 s_65 (hs_66 : RC true s s_65) => ?_)
          refine ok_ite (fun h_67 => ?_) (fun h_68 => ?_)
          · unfold F_X3_tells_115
            exact ok_some (lp_inl ⟨rfl, hs_66, (up_nn hn_14 (ge_t h_16))⟩ (up_t (ge_t h_16)))
          · refine ok_b1r ?_
            unfold F_X3_tells_87
            refine ok_b1 (T_X10_at isT_6 hs_66.1) (fun v_69 _ => ?_)
            refine ok_b2 (ok_tr2 hs_66 (T_X3_valueOf hs_66.1)) (fun v_71 s_72 (hs_73 : RC true s s_72) => ?_)
            extract_lets +onlyGivenNames v_74
            clear_value v_74
            exact ok_some hs_73
theorem T_X0_sureByGlance {a1 : Int32} {s : mG} (hI : IC s) : ok (F_X0_sureByGlance a1 s) (fun τ => RC true s τ.2) := by
  have hR : RC true s s := RC_refl hI
  unfold F_X0_sureByGlance
  refine ok_b1 (ok_tr hR (T_X3_face hR.1)) (fun s_1 (hs_2 : RC true s s_1) => ?_)
  refine ok_b2 (ok_tr2 hs_2 (T_X3_tells hs_2.1)) (fun v_3 s_4 (hs_5 : RC true s s_4) => ?_)
  unfold F_X0_sureByGlance_L23
  refine ok_whl (fun v => RC true s v.2.2 ∧ ¬ v.2.1 < 0) (fun v => mUp v.2.1) ⟨hs_5, nn0⟩ (fun v hv => ?_)
  obtain ⟨x_9, x_10, s_11⟩ := v
  obtain ⟨rhs_12, rhn_13⟩ := hv
  have hs_12 : RC true s s_11 := rhs_12
  have hn_13 : ¬ x_10 < 0 := rhn_13
  show ok (F_X0_sureByGlance_B23 x_9 x_10 s_11) _
  unfold F_X0_sureByGlance_B23
  refine ok_ite (fun h_14 => ?_) (fun h_15 => ?_)
  · exact ok_some (lp_inr (hs_12))
  · refine ok_b1 (T_X11_cell sh74 hs_12.1) (fun v_16 _ => ?_)
    refine ok_ite (fun h_18 => ?_) (fun h_19 => ?_)
    · unfold F_X0_sureByGlance_74
      exact ok_some (lp_inl ⟨hs_12, (up_nn hn_13 (ge_t h_15))⟩ (up_t (ge_t h_15)))
    · refine ok_ite (fun h_20 => ?_) (fun h_21 => ?_)
      · unfold F_X0_sureByGlance_71
        refine ok_b1 (T_X0_sureAfter hs_12.1) (fun v_22 _ => ?_)
        unfold F_X0_sureByGlance_74
        exact ok_some (lp_inl ⟨hs_12, (up_nn hn_13 (ge_t h_15))⟩ (up_t (ge_t h_15)))
      · unfold F_X0_sureByGlance_71
        refine ok_b1 (T_X0_sureAfter hs_12.1) (fun v_24 _ => ?_)
        unfold F_X0_sureByGlance_74
        exact ok_some (lp_inl ⟨hs_12, (up_nn hn_13 (ge_t h_15))⟩ (up_t (ge_t h_15)))
theorem T_X0_sureOf {a1 : Int32} {s : mG} (hI : IC s) : ok (F_X0_sureOf a1 s) (fun τ => RC true s τ.2) := by
  have hR : RC true s s := RC_refl hI
  unfold F_X0_sureOf
  refine ok_b1 (ok_tr hR (T_X0_glanceAt hR.1)) (fun s_1 (hs_2 : RC true s s_1) => ?_)
  refine ok_b2 (ok_tr2 hs_2 (T_X0_sureByGlance hs_2.1)) (fun v_3 s_4 (hs_5 : RC true s s_4) => ?_)
  exact ok_some hs_5
theorem T_X0_chanceToSee {s : mG} {a1 : Int32} {a2 : Int32} (hI : IC s) : ok (F_X0_chanceToSee s a1 a2) PT := by
  have hR : RC true s s := RC_refl hI
  unfold F_X0_chanceToSee
  refine ok_b1 (T_X10_at isT_10 hR.1) (fun v_1 _ => ?_)
  refine ok_b1 (T_X10_at isT_10 hR.1) (fun v_3 _ => ?_)
  exact ok_some trivial
theorem T_X0_surenessBy {s : mG} {a1 : Int32} {a2 : Int32} (hI : IC s) : ok (F_X0_surenessBy s a1 a2) PT := by
  have hR : RC true s s := RC_refl hI
  unfold F_X0_surenessBy
  refine ok_b1 (T_X0_chanceToSee hR.1) (fun v_1 _ => ?_)
  refine ok_b1 (T_X0_sureAfter hR.1) (fun v_3 _ => ?_)
  refine ok_b1 (T_X0_sureAfter hR.1) (fun v_5 _ => ?_)
  exact ok_some trivial
theorem T_X0_bestSign {s : mG} {a1 : Int32} (hI : IC s) : ok (F_X0_bestSign s a1) PT := by
  have hR : RC true s s := RC_refl hI
  unfold F_X0_bestSign
  unfold F_X0_bestSign_L9
  refine ok_whl (fun v => a1 = v.1 ∧ ¬ v.2.2.2 < 0) (fun v => mUp v.2.2.2) ⟨rfl, nn0⟩ (fun v hv => ?_)
  obtain ⟨x_3, x_4, x_5, x_6⟩ := v
  obtain ⟨rfl, rhn_7⟩ := hv
  have hn_7 : ¬ x_6 < 0 := rhn_7
  show ok (F_X0_bestSign_B9 s a1 x_4 x_5 x_6) _
  unfold F_X0_bestSign_B9
  refine ok_ite (fun h_8 => ?_) (fun h_9 => ?_)
  · exact ok_some (lp_inr (trivial))
  · refine ok_b1 (T_X0_surenessBy hR.1) (fun v_10 _ => ?_)
    refine ok_b1 (T_X11_cell sh74 hR.1) (fun v_12 _ => ?_)
    refine ok_ite (fun h_14 => ?_) (fun h_15 => ?_)
    · refine ok_ite (fun h_16 => ?_) (fun h_17 => ?_)
      · unfold F_X0_bestSign_59
        exact ok_some (lp_inl ⟨rfl, (up_nn hn_7 (ge_t h_9))⟩ (up_t (ge_t h_9)))
      · unfold F_X0_bestSign_59
        exact ok_some (lp_inl ⟨rfl, (up_nn hn_7 (ge_t h_9))⟩ (up_t (ge_t h_9)))
    · unfold F_X0_bestSign_59
      exact ok_some (lp_inl ⟨rfl, (up_nn hn_7 (ge_t h_9))⟩ (up_t (ge_t h_9)))
theorem T_X0_signAt {a1 : Int32} {a2 : Int32} {s : mG} (hI : IC s) : ok (F_X0_signAt a1 a2 s) (fun τ => RC true s τ.2) := by
  have hR : RC true s s := RC_refl hI
  unfold F_X0_signAt
  refine ok_b1 (ok_tr hR (T_X0_glanceAt hR.1)) (fun s_1 (hs_2 : RC true s s_1) => ?_)
  unfold F_X0_signAt_L7
  refine ok_whl (fun v => a1 = v.1 ∧ a2 = v.2.1 ∧ RC true s v.2.2.2 ∧ ¬ v.2.2.1 < 0) (fun v => mUp v.2.2.1) ⟨rfl, rfl, hs_2, nn0⟩ (fun v hv => ?_)
  obtain ⟨x_9, x_10, x_11, s_12⟩ := v
  obtain ⟨rfl, rfl, rhs_13, rhn_14⟩ := hv
  have hs_13 : RC true s s_12 := rhs_13
  have hn_14 : ¬ x_11 < 0 := rhn_14
  show ok (F_X0_signAt_B7 a1 a2 x_11 s_12) _
  unfold F_X0_signAt_B7
  refine ok_ite (fun h_15 => ?_) (fun h_16 => ?_)
  · exact ok_some (lp_inr (hs_13))
  · refine ok_b2 (ok_tr2 hs_13 (T_X0_sureByGlance hs_13.1)) (fun v_17 s_18 (hs_19 : RC true s s_18) => ?_)
    refine ok_b1 (T_X0_bestSign hs_19.1) (fun v_20 _ => ?_)
    refine ok_ite (fun h_22 => ?_) (fun h_23 => ?_)
    · refine ok_b1r ?_
      unfold F_X0_signAt_39
      exact ok_some hs_19
    · refine ok_ite (fun h_24 => ?_) (fun h_25 => ?_)
      · refine ok_b1r ?_
        unfold F_X0_signAt_39
        exact ok_some hs_19
      · refine ok_b1 (T_X0_chanceToSee hs_19.1) (fun v_26 _ => ?_)
        refine ok_ite (fun h_28 => ?_) (fun h_29 => ?_)
        · unfold F_X0_signAt_66
          refine ok_b1 (ok_tr hs_19 (T_X11_put sh74 (by decide) hs_19.1)) (fun s_30 (hs_31 : RC true s s_30) => ?_)
          exact ok_some (lp_inl ⟨rfl, rfl, hs_31, (up_nn hn_14 (ge_t h_16))⟩ (up_t (ge_t h_16)))
        · unfold F_X0_signAt_66
          refine ok_b1 (ok_tr hs_19 (T_X11_put sh74 (by decide) hs_19.1)) (fun s_32 (hs_33 : RC true s s_32) => ?_)
          exact ok_some (lp_inl ⟨rfl, rfl, hs_33, (up_nn hn_14 (ge_t h_16))⟩ (up_t (ge_t h_16)))
theorem T_X0_isBestSaidIn {s : mG} {a1 : Int64} {a2 : Int32} {a3 : Int32} (hI : IC s) : ok (F_X0_isBestSaidIn s a1 a2 a3) PB := by
  have hR : RC true s s := RC_refl hI
  unfold F_X0_isBestSaidIn
  refine ok_ite (fun h_1 => ?_) (fun h_2 => ?_)
  · exact ok_some pb0
  · exact ok_some pb1
theorem T_X0_saysIn {a1 : Int32} {a2 : Int32} {a3 : Int32} {s : mG} (hI : IC s) : ok (F_X0_saysIn a1 a2 a3 s) (fun τ => PB τ.1 ∧ RC true s τ.2) := by
  have hR : RC true s s := RC_refl hI
  unfold F_X0_saysIn
  refine ok_b2 (ok_tr2 hR (T_X0_sureOf hR.1)) (fun v_1 s_2 (hs_3 : RC true s s_2) => ?_)
  refine ok_b1 (T_X0_isBestSaidIn hs_3.1) (fun v_4 (hv_5 : PB v_4) => ?_)
  refine ok_pp hv_5 ?_
  exact ok_some ⟨hv_5, hs_3⟩
theorem T_X11_share {s : mG} {a1 : Int32} {a2 : Int32} (hI : IC s) : ok (F_X11_share s a1 a2) PT := by
  have hR : RC true s s := RC_refl hI
  unfold F_X11_share
  exact ok_some trivial
theorem T_X0_saidToAll {a1 : Int32} {s : mG} (hI : IC s) : ok (F_X0_saidToAll a1 s) (fun τ => RC true s τ.2) := by
  have hR : RC true s s := RC_refl hI
  unfold F_X0_saidToAll
  unfold F_X0_saidToAll_L7
  refine ok_whl (fun v => a1 = v.1 ∧ RC true s v.2.2.2.2 ∧ ¬ v.2.2.2.1 < 0) (fun v => mUp v.2.2.2.1) ⟨rfl, hR, nn0⟩ (fun v hv => ?_)
  obtain ⟨x_11, x_12, x_13, x_14, s_15⟩ := v
  obtain ⟨rfl, rhs_16, rhn_17⟩ := hv
  have hs_16 : RC true s s_15 := rhs_16
  have hn_17 : ¬ x_14 < 0 := rhn_17
  show ok (F_X0_saidToAll_B7 a1 x_12 x_13 x_14 s_15) _
  unfold F_X0_saidToAll_B7
  refine ok_ite (fun h_18 => ?_) (fun h_19 => ?_)
  · refine ok_ite (fun h_20 => ?_) (fun h_21 => ?_)
    · exact ok_some (lp_inr (hs_16))
    · exact ok_some (lp_inr (hs_16))
  · refine ok_b1 (T_X10_at isT_16 hs_16.1) (fun v_22 _ => ?_)
    refine ok_b2 (ok_tr2 hs_16 (T_X0_sureOf hs_16.1)) (fun v_24 s_25 (hs_26 : RC true s s_25) => ?_)
    refine ok_b1 (T_X10_at isT_16 hs_26.1) (fun v_27 _ => ?_)
    refine ok_b1 (T_X10_at isT_16 hs_26.1) (fun v_29 _ => ?_)
    refine ok_b1 (T_X0_isBestSaidIn hs_26.1) (fun v_31 (hv_32 : PB v_31) => ?_)
    refine ok_ite (fun h_33 => ?_) (fun h_34 => ?_)
    · unfold F_X0_saidToAll_97
      refine ok_ite (fun h_35 => ?_) (fun h_36 => ?_)
      · refine ok_b1 (T_X11_share hs_26.1) (fun v_37 _ => ?_)
        unfold F_X0_saidToAll_125
        exact ok_some (lp_inl ⟨rfl, hs_26, (up_nn hn_17 (ge_t h_19))⟩ (up_t (ge_t h_19)))
      · refine ok_b1 (T_X11_share hs_26.1) (fun v_39 _ => ?_)
        unfold F_X0_saidToAll_125
        exact ok_some (lp_inl ⟨rfl, hs_26, (up_nn hn_17 (ge_t h_19))⟩ (up_t (ge_t h_19)))
    · unfold F_X0_saidToAll_97
      refine ok_ite (fun h_41 => ?_) (fun h_42 => ?_)
      · refine ok_b1 (T_X11_share hs_26.1) (fun v_43 _ => ?_)
        unfold F_X0_saidToAll_125
        exact ok_some (lp_inl ⟨rfl, hs_26, (up_nn hn_17 (ge_t h_19))⟩ (up_t (ge_t h_19)))
      · refine ok_b1 (T_X11_share hs_26.1) (fun v_45 _ => ?_)
        unfold F_X0_saidToAll_125
        exact ok_some (lp_inl ⟨rfl, hs_26, (up_nn hn_17 (ge_t h_19))⟩ (up_t (ge_t h_19)))
theorem T_X0_weighAll {s : mG} (hI : IC s) : ok (F_X0_weighAll s) (RC true s) := by
  have hR : RC true s s := RC_refl hI
  unfold F_X0_weighAll
  unfold F_X0_weighAll_L2
  refine ok_whl (fun v => RC true s v.2 ∧ ¬ v.1 < 0) (fun v => mUp v.1) ⟨hR, nn0⟩ (fun v hv => ?_)
  obtain ⟨x_5, s_6⟩ := v
  obtain ⟨rhs_7, rhn_8⟩ := hv
  have hs_7 : RC true s s_6 := rhs_7
  have hn_8 : ¬ x_5 < 0 := rhn_8
  show ok (F_X0_weighAll_B2 x_5 s_6) _
  unfold F_X0_weighAll_B2
  refine ok_ite (fun h_9 => ?_) (fun h_10 => ?_)
  · exact ok_some (lp_inr (hs_7))
  · refine ok_b1 (ok_tr hs_7 (T_X0_glanceAt hs_7.1)) (fun s_11 (hs_12 : RC true s s_11) => ?_)
    refine ok_b2 (ok_tr2 hs_12 (T_X0_sureByGlance hs_12.1)) (fun v_13 s_14 (hs_15 : RC true s s_14) => ?_)
    refine ok_b1 (ok_tr hs_15 (T_X11_put sh76 (by decide) hs_15.1)) (fun s_16 (hs_17 : RC true s s_16) => ?_)
    exact ok_some (lp_inl ⟨hs_17, (up_nn hn_8 (ge_t h_10))⟩ (up_t (ge_t h_10)))
theorem T_X0_sumOfSure {s : mG} (hI : IC s) : ok (F_X0_sumOfSure s) (fun τ => RC true s τ.2) := by
  have hR : RC true s s := RC_refl hI
  unfold F_X0_sumOfSure
  refine ok_b1 (ok_tr hR (T_X0_weighAll hR.1)) (fun s_1 (hs_2 : RC true s s_1) => ?_)
  unfold F_X0_sumOfSure_L8
  refine ok_whl (fun v => RC true s v.2.2 ∧ ¬ v.2.1 < 0) (fun v => mUp v.2.1) ⟨hs_2, nn0⟩ (fun v hv => ?_)
  obtain ⟨x_4, x_5, s_6⟩ := v
  obtain ⟨rhs_7, rhn_8⟩ := hv
  have hs_7 : RC true s s_6 := rhs_7
  have hn_8 : ¬ x_5 < 0 := rhn_8
  show ok (F_X0_sumOfSure_B8 x_4 x_5 s_6) _
  unfold F_X0_sumOfSure_B8
  refine ok_ite (fun h_9 => ?_) (fun h_10 => ?_)
  · exact ok_some (lp_inr (hs_7))
  · refine ok_b1 (T_X11_cell sh76 hs_7.1) (fun v_11 _ => ?_)
    exact ok_some (lp_inl ⟨hs_7, (up_nn hn_8 (ge_t h_10))⟩ (up_t (ge_t h_10)))
theorem T_X0_countChance {a1 : Int32} {s : mG} (hI : IC s) : ok (F_X0_countChance a1 s) (RC true s) := by
  have hR : RC true s s := RC_refl hI
  unfold F_X0_countChance
  unfold F_X0_countChance_L8
  refine ok_whl (fun v => a1 = v.1 ∧ RC true s v.2.2) (fun v => mDn v.2.1) ⟨rfl, hR⟩ (fun v hv => ?_)
  obtain ⟨x_6, x_7, s_8⟩ := v
  obtain ⟨rfl, rhs_9⟩ := hv
  have hs_9 : RC true s s_8 := rhs_9
  show ok (F_X0_countChance_B8 a1 x_7 s_8) _
  unfold F_X0_countChance_B8
  refine ok_ite (fun h_10 => ?_) (fun h_11 => ?_)
  · exact ok_some (lp_inr (hs_9))
  · refine ok_b1 (T_X11_cell sh75 hs_9.1) (fun v_12 _ => ?_)
    refine ok_b1 (T_X11_share hs_9.1) (fun v_14 _ => ?_)
    refine ok_b1 (T_X11_cell sh75 hs_9.1) (fun v_16 _ => ?_)
    refine ok_b1 (T_X11_share hs_9.1) (fun v_18 _ => ?_)
    refine ok_b1 (ok_tr hs_9 (T_X11_put sh75 (by decide) hs_9.1)) (fun s_20 (hs_21 : RC true s s_20) => ?_)
    exact ok_some (lp_inl ⟨rfl, hs_21⟩ (dn_t h_11))
theorem T_X0_countChances {a1 : Int32} {s : mG} (hI : IC s) : ok (F_X0_countChances a1 s) (RC true s) := by
  have hR : RC true s s := RC_refl hI
  unfold F_X0_countChances
  refine ok_b1 (ok_tr hR (T_X0_weighAll hR.1)) (fun s_1 (hs_2 : RC true s s_1) => ?_)
  unfold F_X0_countChances_L6
  refine ok_whl (fun v => a1 = v.1 ∧ RC true s v.2.2 ∧ ¬ v.2.1 < 0) (fun v => mUp v.2.1) ⟨rfl, hs_2, nn0⟩ (fun v hv => ?_)
  obtain ⟨x_5, x_6, s_7⟩ := v
  obtain ⟨rfl, rhs_8, rhn_9⟩ := hv
  have hs_8 : RC true s s_7 := rhs_8
  have hn_9 : ¬ x_6 < 0 := rhn_9
  show ok (F_X0_countChances_B6 a1 x_6 s_7) _
  unfold F_X0_countChances_B6
  refine ok_ite (fun h_10 => ?_) (fun h_11 => ?_)
  · refine ok_b1r ?_
    unfold F_X0_countChances_L39
    refine ok_whl (fun v => a1 = v.1 ∧ RC true s v.2.2 ∧ ¬ v.2.1 < 0) (fun v => mUp v.2.1) ⟨rfl, hs_8, nn0⟩ (fun v hv => ?_)
    obtain ⟨x_14, x_15, s_16⟩ := v
    obtain ⟨rfl, rhs_17, rhn_18⟩ := hv
    have hs_17 : RC true s s_16 := rhs_17
    have hn_18 : ¬ x_15 < 0 := rhn_18
    show ok (F_X0_countChances_B39 a1 x_15 s_16) _
    unfold F_X0_countChances_B39
    refine ok_ite (fun h_19 => ?_) (fun h_20 => ?_)
    · exact ok_some (lp_inr (hs_17))
    · refine ok_ite (fun h_21 => ?_) (fun h_22 => ?_)
      · unfold F_X0_countChances_70
        exact ok_some (lp_inl ⟨rfl, hs_17, (up_nn hn_18 (ge_t h_20))⟩ (up_t (ge_t h_20)))
      · refine ok_b1 (T_X11_cell sh76 hs_17.1) (fun v_23 _ => ?_)
        refine ok_b1 (ok_tr hs_17 (T_X0_countChance hs_17.1)) (fun s_25 (hs_26 : RC true s s_25) => ?_)
        unfold F_X0_countChances_70
        exact ok_some (lp_inl ⟨rfl, hs_26, (up_nn hn_18 (ge_t h_20))⟩ (up_t (ge_t h_20)))
  · refine ok_ite (fun h_27 => ?_) (fun h_28 => ?_)
    · unfold F_X0_countChances_30
      refine ok_nn (idx_ok (by decide) hn_9 h_11) ?_
      extract_lets +onlyGivenNames s_29
      have hs_30 : RC true s s_29 := (RC_mw hs_8 (by decide))
      clear_value s_29
      exact ok_some (lp_inl ⟨rfl, hs_30, (up_nn hn_9 (ge_t h_11))⟩ (up_t (ge_t h_11)))
    · unfold F_X0_countChances_30
      refine ok_nn (idx_ok (by decide) hn_9 h_11) ?_
      extract_lets +onlyGivenNames s_31
      have hs_32 : RC true s s_31 := (RC_mw hs_8 (by decide))
      clear_value s_31
      exact ok_some (lp_inl ⟨rfl, hs_32, (up_nn hn_9 (ge_t h_11))⟩ (up_t (ge_t h_11)))
theorem T_X0_likeliest {a1 : Int32} {s : mG} (hI : IC s) : ok (F_X0_likeliest a1 s) (fun τ => RC true s τ.2) := by
  have hR : RC true s s := RC_refl hI
  unfold F_X0_likeliest
  refine ok_b1 (ok_tr hR (T_X0_countChances hR.1)) (fun s_1 (hs_2 : RC true s s_1) => ?_)
  unfold F_X0_likeliest_L9
  refine ok_whl (fun v => a1 = v.1 ∧ RC true s v.2.2.2 ∧ ¬ v.2.2.1 < 0) (fun v => mUp v.2.2.1) ⟨rfl, hs_2, nn1⟩ (fun v hv => ?_)
  obtain ⟨x_6, x_7, x_8, s_9⟩ := v
  obtain ⟨rfl, rhs_10, rhn_11⟩ := hv
  have hs_10 : RC true s s_9 := rhs_10
  have hn_11 : ¬ x_8 < 0 := rhn_11
  show ok (F_X0_likeliest_B9 a1 x_7 x_8 s_9) _
  unfold F_X0_likeliest_B9
  refine ok_ite (fun h_12 => ?_) (fun h_13 => ?_)
  · refine ok_ite (fun h_14 => ?_) (fun h_15 => ?_)
    · exact ok_some (lp_inr (hs_10))
    · refine ok_b1 (T_X11_cell sh75 hs_10.1) (fun v_16 _ => ?_)
      exact ok_some (lp_inr (hs_10))
  · refine ok_b1 (T_X11_cell sh75 hs_10.1) (fun v_18 _ => ?_)
    refine ok_b1 (T_X11_cell sh75 hs_10.1) (fun v_20 _ => ?_)
    refine ok_ite (fun h_22 => ?_) (fun h_23 => ?_)
    · unfold F_X0_likeliest_47
      exact ok_some (lp_inl ⟨rfl, hs_10, (up_nn hn_11 (le_t h_13 (ic_t hs_10.1)))⟩ (up_t (le_t h_13 (ic_t hs_10.1))))
    · unfold F_X0_likeliest_47
      exact ok_some (lp_inl ⟨rfl, hs_10, (up_nn hn_11 (le_t h_13 (ic_t hs_10.1)))⟩ (up_t (le_t h_13 (ic_t hs_10.1))))
theorem T_X0_chanceWithin {s : mG} {a1 : Int32} {a2 : Int32} (hb : a2.toInt < 2147483647) (hI : IC s) : ok (F_X0_chanceWithin s a1 a2) PT := by
  have hR : RC true s s := RC_refl hI
  unfold F_X0_chanceWithin
  unfold F_X0_chanceWithin_L5
  refine ok_whl (fun v => a2 = v.1) (fun v => mUp v.2.2) rfl (fun v hv => ?_)
  obtain ⟨x_2, x_3, x_4⟩ := v
  obtain rfl := hv
  show ok (F_X0_chanceWithin_B5 s a2 x_3 x_4) _
  unfold F_X0_chanceWithin_B5
  refine ok_ite (fun h_5 => ?_) (fun h_6 => ?_)
  · exact ok_some (lp_inr (trivial))
  · refine ok_b1 (T_X11_cell sh75 hR.1) (fun v_7 _ => ?_)
    exact ok_some (lp_inl rfl (up_t (le_t h_6 hb)))
/-! X0_spanEdge: by hand -/
theorem t_nlt {x y : Int32} (h : ¬ y < x) : x.toInt ≤ y.toInt := by
  rw [Int32.lt_iff_toInt_lt] at h
  omega
theorem T_X0_spanEdge {a1 a2 : Int32} {s : mG} (hI : IC s) : ok (F_X0_spanEdge a1 a2 s) (fun τ => RC true s τ.2) := by
  have hR : RC true s s := RC_refl hI
  unfold F_X0_spanEdge
  refine ok_b1 (ok_tr hR (T_X0_countChances hR.1)) (fun s2 (hs2 : RC true s s2) => ?_)
  have hm := ic_lt hs2.1
  generalize s2.1 2 3 = n at hm ⊢
  unfold F_X0_spanEdge_L19
  refine ok_whl (fun v => n = v.2.2.1 ∧ RC true s v.2.2.2.2 ∧ 0 ≤ v.2.2.2.1.toInt) (fun v => mUp v.2.2.2.1) ⟨rfl, hs2, show 0 ≤ (ci 0).toInt by decide⟩ (fun v hv => ?_)
  obtain ⟨x1, x2, x3, x4, s3⟩ := v
  obtain ⟨rfl, rs3, h0⟩ := hv
  have hs3 : RC true s s3 := rs3
  show ok (F_X0_spanEdge_B19 x1 x2 n x4 s3) _
  unfold F_X0_spanEdge_B19
  refine ok_ite (fun h => ?_) (fun h => ?_)
  · exact ok_some (lp_inr hs3)
  · have h4 := t_nlt h
    replace h0 : 0 ≤ x4.toInt := h0
    unfold F_X0_spanEdge_L28
    refine ok_whl (fun v => n = v.2.2.1 ∧ x4 = v.2.2.2.1 ∧ RC true s v.2.2.2.2.2 ∧ 0 ≤ v.2.2.2.2.1.toInt ∧ v.2.2.2.2.1.toInt ≤ 13) (fun v => mUp v.2.2.2.2.1) ⟨rfl, rfl, hs3, show 0 ≤ (ci 0).toInt by decide, show (ci 0).toInt ≤ 13 by decide⟩ (fun v hv => ?_)
    obtain ⟨y1, y2, y3, y4, y5, s4⟩ := v
    obtain ⟨rfl, rfl, rs4, g0, g1⟩ := hv
    have hs4 : RC true s s4 := rs4
    replace g0 : 0 ≤ y5.toInt := g0
    replace g1 : y5.toInt ≤ 13 := g1
    show ok (F_X0_spanEdge_B28 y1 y2 n x4 y5 s4) _
    unfold F_X0_spanEdge_B28
    have e : (y5 + x4).toInt = y5.toInt + x4.toInt := t_add (by omega) (by omega)
    refine ok_ite (fun k => ?_) (fun k => ?_)
    · exact ok_some (lp_inr (lp_inl ⟨rfl, hs4, show 0 ≤ (x4 + ci 1).toInt by rw [t_up (by omega)]; omega⟩ (up_t (by omega))))
    · have k2 := t_nlt k
      rw [e] at k2
      refine ok_b1 (T_X0_chanceWithin (by rw [e]; omega) hs4.1) (fun v6 _ => ?_)
      refine ok_ite (fun _ => ?_) (fun _ => ?_)
      · exact ok_some (lp_inl ⟨rfl, rfl, hs4, show 0 ≤ (y5 + ci 1).toInt by rw [t_up (by omega)]; omega, show (y5 + ci 1).toInt ≤ 13 by rw [t_up (by omega)]; omega⟩ (up_t (by omega)))
      · refine ok_ite (fun _ => ?_) (fun _ => ?_)
        · exact ok_some (lp_inr (lp_inr hs4))
        · exact ok_some (lp_inr (lp_inr hs4))
theorem T_X0_amongCounted {a1 : Int32} {a2 : Int32} {s : mG} (hI : IC s) : ok (F_X0_amongCounted a1 a2 s) (fun τ => RC true s τ.2) := by
  have hR : RC true s s := RC_refl hI
  unfold F_X0_amongCounted
  refine ok_b1 (ok_tr hR (T_X0_countChances hR.1)) (fun s_1 (hs_2 : RC true s s_1) => ?_)
  refine ok_b1 (T_X11_cell sh76 hs_2.1) (fun v_3 _ => ?_)
  refine ok_b1 (T_X11_cell sh75 hs_2.1) (fun v_5 _ => ?_)
  extract_lets +onlyGivenNames v_7
  clear_value v_7
  refine ok_b1 (T_X11_cell sh75 hs_2.1) (fun v_8 _ => ?_)
  extract_lets +onlyGivenNames v_10
  clear_value v_10
  refine ok_ite (fun h_11 => ?_) (fun h_12 => ?_)
  · exact ok_some hs_2
  · refine ok_nn (lgc_ne h_12) ?_
    extract_lets +onlyGivenNames v_13
    clear_value v_13
    exact ok_some hs_2
theorem T_X0_emptyChance {a1 : Int32} {s : mG} (hI : IC s) : ok (F_X0_emptyChance a1 s) (fun τ => RC true s τ.2) := by
  have hR : RC true s s := RC_refl hI
  unfold F_X0_emptyChance
  refine ok_b1 (ok_tr hR (T_X0_weighAll hR.1)) (fun s_1 (hs_2 : RC true s s_1) => ?_)
  unfold F_X0_emptyChance_L9
  refine ok_whl (fun v => a1 = v.1 ∧ RC true s v.2.2.2 ∧ ¬ v.2.2.1 < 0) (fun v => mUp v.2.2.1) ⟨rfl, hs_2, nn0⟩ (fun v hv => ?_)
  obtain ⟨x_6, x_7, x_8, s_9⟩ := v
  obtain ⟨rfl, rhs_10, rhn_11⟩ := hv
  have hs_10 : RC true s s_9 := rhs_10
  have hn_11 : ¬ x_8 < 0 := rhn_11
  show ok (F_X0_emptyChance_B9 a1 x_7 x_8 s_9) _
  unfold F_X0_emptyChance_B9
  refine ok_ite (fun h_12 => ?_) (fun h_13 => ?_)
  · exact ok_some (lp_inr (hs_10))
  · refine ok_b1 (T_X10_at isT_2 hs_10.1) (fun v_14 _ => ?_)
    refine ok_ite (fun h_16 => ?_) (fun h_17 => ?_)
    · refine ok_b1 (T_X11_cell sh76 hs_10.1) (fun v_18 _ => ?_)
      refine ok_b1 (T_X11_share hs_10.1) (fun v_20 _ => ?_)
      unfold F_X0_emptyChance_55
      exact ok_some (lp_inl ⟨rfl, hs_10, (up_nn hn_11 (ge_t h_13))⟩ (up_t (ge_t h_13)))
    · unfold F_X0_emptyChance_55
      exact ok_some (lp_inl ⟨rfl, hs_10, (up_nn hn_11 (ge_t h_13))⟩ (up_t (ge_t h_13)))
theorem T_X0_bestPair {a1 : Int32} {s : mG} (hI : IC s) : ok (F_X0_bestPair a1 s) (fun τ => RC true s τ.2) := by
  have hR : RC true s s := RC_refl hI
  unfold F_X0_bestPair
  refine ok_b1 (ok_tr hR (T_X0_weighAll hR.1)) (fun s_1 (hs_2 : RC true s s_1) => ?_)
  unfold F_X0_bestPair_L14
  refine ok_whl (fun v => a1 = v.1 ∧ RC true s v.2.2.2.2.2 ∧ ¬ v.2.2.2.2.1 < 0) (fun v => mUp v.2.2.2.2.1) ⟨rfl, hs_2, nn0⟩ (fun v hv => ?_)
  obtain ⟨x_14, x_15, x_16, x_17, x_18, s_19⟩ := v
  obtain ⟨rfl, rhs_20, rhn_21⟩ := hv
  have hs_20 : RC true s s_19 := rhs_20
  have hn_21 : ¬ x_18 < 0 := rhn_21
  show ok (F_X0_bestPair_B14 a1 x_15 x_16 x_17 x_18 s_19) _
  unfold F_X0_bestPair_B14
  refine ok_ite (fun h_22 => ?_) (fun h_23 => ?_)
  · refine ok_ite (fun h_24 => ?_) (fun h_25 => ?_)
    · exact ok_some (lp_inr (hs_20))
    · refine ok_ite (fun h_26 => ?_) (fun h_27 => ?_)
      · exact ok_some (lp_inr (hs_20))
      · exact ok_some (lp_inr (hs_20))
  · unfold F_X0_bestPair_L35
    refine ok_whl (fun v => a1 = v.1 ∧ x_18 = v.2.2.2.2.1 ∧ RC true s v.2.2.2.2.2.2) (fun v => mUp v.2.2.2.2.2.1) ⟨rfl, rfl, hs_20⟩ (fun v hv => ?_)
    obtain ⟨x_28, x_29, x_30, x_31, x_32, x_33, s_34⟩ := v
    obtain ⟨rfl, rfl, rhs_35⟩ := hv
    have hs_35 : RC true s s_34 := rhs_35
    show ok (F_X0_bestPair_B35 a1 x_29 x_30 x_31 x_18 x_33 s_34) _
    unfold F_X0_bestPair_B35
    refine ok_ite (fun h_36 => ?_) (fun h_37 => ?_)
    · exact ok_some (lp_inr (lp_inl ⟨rfl, hs_35, (up_nn hn_21 (ge_t h_23))⟩ (up_t (ge_t h_23))))
    · refine ok_b1 (T_X11_cell sh76 hs_35.1) (fun v_38 _ => ?_)
      refine ok_b1 (T_X11_cell sh76 hs_35.1) (fun v_40 _ => ?_)
      refine ok_b1 (T_X11_share hs_35.1) (fun v_42 _ => ?_)
      refine ok_ite (fun h_44 => ?_) (fun h_45 => ?_)
      · unfold F_X0_bestPair_90
        exact ok_some (lp_inl ⟨rfl, rfl, hs_35⟩ (up_t (ge_t h_37)))
      · unfold F_X0_bestPair_90
        exact ok_some (lp_inl ⟨rfl, rfl, hs_35⟩ (up_t (ge_t h_37)))
theorem T_X0_keylessOut {s : mG} (hI : IC s) : ok (F_X0_keylessOut s) (fun τ => RC true s τ.2) := by
  have hR : RC true s s := RC_refl hI
  unfold F_X0_keylessOut
  refine ok_b1 (ok_tr hR (T_X0_weighAll hR.1)) (fun s_1 (hs_2 : RC true s s_1) => ?_)
  unfold F_X0_keylessOut_L8
  refine ok_whl (fun v => RC true s v.2.2 ∧ ¬ v.2.1 < 0) (fun v => mUp v.2.1) ⟨hs_2, nn0⟩ (fun v hv => ?_)
  obtain ⟨x_6, x_7, s_8⟩ := v
  obtain ⟨rhs_9, rhn_10⟩ := hv
  have hs_9 : RC true s s_8 := rhs_9
  have hn_10 : ¬ x_7 < 0 := rhn_10
  show ok (F_X0_keylessOut_B8 x_6 x_7 s_8) _
  unfold F_X0_keylessOut_B8
  refine ok_ite (fun h_11 => ?_) (fun h_12 => ?_)
  · exact ok_some (lp_inr (hs_9))
  · refine ok_b1 (T_X10_at isT_2 hs_9.1) (fun v_13 _ => ?_)
    refine ok_ite (fun h_15 => ?_) (fun h_16 => ?_)
    · refine ok_b1 (T_X11_cell sh76 hs_9.1) (fun v_17 _ => ?_)
      extract_lets +onlyGivenNames v_19
      clear_value v_19
      unfold F_X0_keylessOut_52
      exact ok_some (lp_inl ⟨hs_9, (up_nn hn_10 (ge_t h_12))⟩ (up_t (ge_t h_12)))
    · unfold F_X0_keylessOut_52
      exact ok_some (lp_inl ⟨hs_9, (up_nn hn_10 (ge_t h_12))⟩ (up_t (ge_t h_12)))
theorem T_X1_bestVisit {a1 : Int32} {a2 : Int32} {a3 : Int32} {s : mG} (hI : IC s) : ok (F_X1_bestVisit a1 a2 a3 s) (fun τ => RC true s τ.2) := by
  have hR : RC true s s := RC_refl hI
  unfold F_X1_bestVisit
  refine ok_b1 (ok_tr hR (T_X3_face hR.1)) (fun s_1 (hs_2 : RC true s s_1) => ?_)
  unfold F_X1_bestVisit_L20
  refine ok_whl (fun v => a3 = v.1 ∧ RC true s v.2.2.2.2.2 ∧ ¬ v.2.2.2.2.1 < 0) (fun v => mUp v.2.2.2.2.1) ⟨rfl, hs_2, nn1⟩ (fun v hv => ?_)
  obtain ⟨x_10, x_11, x_12, x_13, x_14, s_15⟩ := v
  obtain ⟨rfl, rhs_16, rhn_17⟩ := hv
  have hs_16 : RC true s s_15 := rhs_16
  have hn_17 : ¬ x_14 < 0 := rhn_17
  show ok (F_X1_bestVisit_B20 a3 x_11 x_12 x_13 x_14 s_15) _
  unfold F_X1_bestVisit_B20
  refine ok_ite (fun h_18 => ?_) (fun h_19 => ?_)
  · refine ok_ite (fun h_20 => ?_) (fun h_21 => ?_)
    · exact ok_some (lp_inr (hs_16))
    · exact ok_some (lp_inr (hs_16))
  · refine ok_b1 (ok_tr hs_16 (T_X3_supposeHour hs_16.1)) (fun s_22 (hs_23 : RC true s s_22) => ?_)
    refine ok_b2 (ok_tr2 hs_23 (T_X3_tells hs_23.1)) (fun v_24 s_25 (hs_26 : RC true s s_25) => ?_)
    extract_lets +onlyGivenNames v_27
    clear_value v_27
    refine ok_b2 (ok_tr2 hs_26 (T_X3_tells hs_26.1)) (fun v_28 s_29 (hs_30 : RC true s s_29) => ?_)
    extract_lets +onlyGivenNames v_31
    clear_value v_31
    refine ok_ite (fun h_32 => ?_) (fun h_33 => ?_)
    · unfold F_X1_bestVisit_108
      exact ok_some (lp_inl ⟨rfl, hs_30, (up_nn hn_17 (ge_t h_19))⟩ (up_t (ge_t h_19)))
    · unfold F_X1_bestVisit_108
      exact ok_some (lp_inl ⟨rfl, hs_30, (up_nn hn_17 (ge_t h_19))⟩ (up_t (ge_t h_19)))
theorem T_X3_suppose {a1 : Int32} {a2 : Int32} {s : mG} (hI : IC s) : ok (F_X3_suppose a1 a2 s) (RC true s) := by
  have hR : RC true s s := RC_refl hI
  unfold F_X3_suppose
  refine ok_b1 (ok_tr hR (T_X11_put sh69 (by decide) hR.1)) (fun s_1 (hs_2 : RC true s s_1) => ?_)
  exact ok_some hs_2
theorem T_X1_stillOut {a1 : Int32} {a2 : Int32} {s : mG} (hI : IC s) : ok (F_X1_stillOut a1 a2 s) (fun τ => RC true s τ.2) := by
  have hR : RC true s s := RC_refl hI
  unfold F_X1_stillOut
  refine ok_b1 (ok_tr hR (T_X3_face hR.1)) (fun s_1 (hs_2 : RC true s s_1) => ?_)
  unfold F_X1_stillOut_L14
  refine ok_whl (fun v => a1 = v.1 ∧ a2 = v.2.1 ∧ RC true s v.2.2.2.2 ∧ ¬ v.2.2.2.1 < 0) (fun v => mUp v.2.2.2.1) ⟨rfl, rfl, hs_2, nn0⟩ (fun v hv => ?_)
  obtain ⟨x_9, x_10, x_11, x_12, s_13⟩ := v
  obtain ⟨rfl, rfl, rhs_14, rhn_15⟩ := hv
  have hs_14 : RC true s s_13 := rhs_14
  have hn_15 : ¬ x_12 < 0 := rhn_15
  show ok (F_X1_stillOut_B14 a1 a2 x_11 x_12 s_13) _
  unfold F_X1_stillOut_B14
  refine ok_ite (fun h_16 => ?_) (fun h_17 => ?_)
  · exact ok_some (lp_inr (hs_14))
  · refine ok_b1 (ok_tr hs_14 (T_X3_supposeHour hs_14.1)) (fun s_18 (hs_19 : RC true s s_18) => ?_)
    refine ok_b1 (T_X10_at isT_2 hs_19.1) (fun v_20 _ => ?_)
    refine ok_b1 (ok_tr hs_19 (T_X3_suppose hs_19.1)) (fun s_22 (hs_23 : RC true s s_22) => ?_)
    refine ok_b2 (ok_tr2 hs_23 (T_X3_tells hs_23.1)) (fun v_24 s_25 (hs_26 : RC true s s_25) => ?_)
    extract_lets +onlyGivenNames v_27
    clear_value v_27
    exact ok_some (lp_inl ⟨rfl, rfl, hs_26, (up_nn hn_15 (ge_t h_17))⟩ (up_t (ge_t h_17)))
theorem T_X2_isOut {hh : Nat} {s : mG} {a1 : Int32} (h_hh : isH hh) (hI : IC s) : ok (F_X2_isOut hh s a1) PB := by
  have hR : RC true s s := RC_refl hI
  unfold F_X2_isOut
  refine ok_b1 (T_X10_at (isH_t h_hh 0 (by decide)) hR.1) (fun v_1 _ => ?_)
  refine ok_ite (fun h_3 => ?_) (fun h_4 => ?_)
  · exact ok_some pb1
  · exact ok_some pb0
theorem T_X1_movesAt {a1 : Int32} {s : mG} (hI : IC s) : ok (F_X1_movesAt a1 s) (fun τ => RC true s τ.2) := by
  have hR : RC true s s := RC_refl hI
  unfold F_X1_movesAt
  unfold F_X1_movesAt_L4
  refine ok_whl (fun v => a1 = v.1 ∧ RC true s v.2.2.2 ∧ ¬ v.2.2.1 < 0) (fun v => mUp v.2.2.1) ⟨rfl, hR, nn0⟩ (fun v hv => ?_)
  obtain ⟨x_8, x_9, x_10, s_11⟩ := v
  obtain ⟨rfl, rhs_12, rhn_13⟩ := hv
  have hs_12 : RC true s s_11 := rhs_12
  have hn_13 : ¬ x_10 < 0 := rhn_13
  show ok (F_X1_movesAt_B4 a1 x_9 x_10 s_11) _
  unfold F_X1_movesAt_B4
  refine ok_ite (fun h_14 => ?_) (fun h_15 => ?_)
  · exact ok_some (lp_inr (hs_12))
  · refine ok_b1 (ok_tr hs_12 (T_X3_face hs_12.1)) (fun s_16 (hs_17 : RC true s s_16) => ?_)
    refine ok_b1 (ok_tr hs_17 (T_X3_suppose hs_17.1)) (fun s_18 (hs_19 : RC true s s_18) => ?_)
    refine ok_b1 (T_X2_isOut isH_1 hs_19.1) (fun v_20 (hv_21 : PB v_20) => ?_)
    refine ok_ite (fun h_22 => ?_) (fun h_23 => ?_)
    · unfold F_X1_movesAt_56
      refine ok_b2 (ok_tr2 hs_19 (T_X3_tells hs_19.1)) (fun v_24 s_25 (hs_26 : RC true s s_25) => ?_)
      exact ok_some (lp_inl ⟨rfl, hs_26, (up_nn hn_13 (ge_t h_15))⟩ (up_t (ge_t h_15)))
    · unfold F_X1_movesAt_56
      refine ok_b2 (ok_tr2 hs_19 (T_X3_tells hs_19.1)) (fun v_27 s_28 (hs_29 : RC true s s_28) => ?_)
      exact ok_some (lp_inl ⟨rfl, hs_29, (up_nn hn_13 (ge_t h_15))⟩ (up_t (ge_t h_15)))
theorem T_X1_movesNow {s : mG} (hI : IC s) : ok (F_X1_movesNow s) (fun τ => RC true s τ.2) := by
  have hR : RC true s s := RC_refl hI
  unfold F_X1_movesNow
  refine ok_b2 (ok_tr2 hR (T_X1_movesAt hR.1)) (fun v_1 s_2 (hs_3 : RC true s s_2) => ?_)
  exact ok_some hs_3
theorem T_X1_busiestClock {s : mG} (hI : IC s) : ok (F_X1_busiestClock s) (fun τ => RC true s τ.2) := by
  have hR : RC true s s := RC_refl hI
  unfold F_X1_busiestClock
  refine ok_b2 (ok_tr2 hR (T_X1_movesAt hR.1)) (fun v_1 s_2 (hs_3 : RC true s s_2) => ?_)
  unfold F_X1_busiestClock_L10
  refine ok_whl (fun v => RC true s v.2.2.2 ∧ ¬ v.2.2.1 < 0) (fun v => mUp v.2.2.1) ⟨hs_3, nn1⟩ (fun v hv => ?_)
  obtain ⟨x_6, x_7, x_8, s_9⟩ := v
  obtain ⟨rhs_10, rhn_11⟩ := hv
  have hs_10 : RC true s s_9 := rhs_10
  have hn_11 : ¬ x_8 < 0 := rhn_11
  show ok (F_X1_busiestClock_B10 x_6 x_7 x_8 s_9) _
  unfold F_X1_busiestClock_B10
  refine ok_ite (fun h_12 => ?_) (fun h_13 => ?_)
  · exact ok_some (lp_inr (hs_10))
  · refine ok_b2 (ok_tr2 hs_10 (T_X1_movesAt hs_10.1)) (fun v_14 s_15 (hs_16 : RC true s s_15) => ?_)
    refine ok_ite (fun h_17 => ?_) (fun h_18 => ?_)
    · unfold F_X1_busiestClock_34
      exact ok_some (lp_inl ⟨hs_16, (up_nn hn_11 (ge_t h_13))⟩ (up_t (ge_t h_13)))
    · unfold F_X1_busiestClock_34
      exact ok_some (lp_inl ⟨hs_16, (up_nn hn_11 (ge_t h_13))⟩ (up_t (ge_t h_13)))
end
