noncomputable section
theorem T_X12_look {s : mG} {a1 : Int32} (hI : IM s) : ok (F_X12_look s a1) (fun (v : Int32) => True) := by
  have hR : RM s s := RM_refl hI
  unfold F_X12_look
  refine ok_ite (fun h_1 => ?_) (fun h_2 => ?_)
  · have hc_3 := r_eq (rfl : (a1).toInt = _) (by decide : (ci 0).toInt = 0) h_1
    exact ok_some trivial
  · have hc_4 := r_ne (rfl : (a1).toInt = _) (by decide : (ci 0).toInt = 0) h_2
    refine ok_ite (fun h_5 => ?_) (fun h_6 => ?_)
    · have hc_7 := r_eq (rfl : (a1).toInt = _) (by decide : (ci 1).toInt = 1) h_5
      exact ok_some trivial
    · have hc_8 := r_ne (rfl : (a1).toInt = _) (by decide : (ci 1).toInt = 1) h_6
      refine ok_ite (fun h_9 => ?_) (fun h_10 => ?_)
      · have hc_11 := r_eq (rfl : (a1).toInt = _) (by decide : (ci 2).toInt = 2) h_9
        refine ok_b1 (T_X12_outs hR.1) (fun v_12 _ => ?_)
        exact ok_some trivial
      · have hc_14 := r_ne (rfl : (a1).toInt = _) (by decide : (ci 2).toInt = 2) h_10
        refine ok_ite (fun h_15 => ?_) (fun h_16 => ?_)
        · have hc_17 := r_eq (rfl : (a1).toInt = _) (by decide : (ci 3).toInt = 3) h_15
          refine ok_b1 (T_X12_hooksWithKeys hR.1) (fun v_18 _ => ?_)
          exact ok_some trivial
        · have hc_20 := r_ne (rfl : (a1).toInt = _) (by decide : (ci 3).toInt = 3) h_16
          refine ok_ite (fun h_21 => ?_) (fun h_22 => ?_)
          · have hc_23 := r_eq (rfl : (a1).toInt = _) (by decide : (ci 4).toInt = 4) h_21
            exact ok_some trivial
          · have hc_24 := r_ne (rfl : (a1).toInt = _) (by decide : (ci 4).toInt = 4) h_22
            refine ok_ite (fun h_25 => ?_) (fun h_26 => ?_)
            · have hc_27 := r_eq (rfl : (a1).toInt = _) (by decide : (ci 5).toInt = 5) h_25
              exact ok_some trivial
            · have hc_28 := r_ne (rfl : (a1).toInt = _) (by decide : (ci 5).toInt = 5) h_26
              refine ok_ite (fun h_29 => ?_) (fun h_30 => ?_)
              · have hc_31 := r_eq (rfl : (a1).toInt = _) (by decide : (ci 6).toInt = 6) h_29
                exact ok_some trivial
              · have hc_32 := r_ne (rfl : (a1).toInt = _) (by decide : (ci 6).toInt = 6) h_30
                refine ok_ite (fun h_33 => ?_) (fun h_34 => ?_)
                · have hc_35 := r_eq (rfl : (a1).toInt = _) (by decide : (ci 7).toInt = 7) h_33
                  exact ok_some trivial
                · have hc_36 := r_ne (rfl : (a1).toInt = _) (by decide : (ci 7).toInt = 7) h_34
                  refine ok_ite (fun h_37 => ?_) (fun h_38 => ?_)
                  · have hc_39 := r_eq (rfl : (a1).toInt = _) (by decide : (ci 8).toInt = 8) h_37
                    exact ok_some trivial
                  · have hc_40 := r_ne (rfl : (a1).toInt = _) (by decide : (ci 8).toInt = 8) h_38
                    refine ok_ite (fun h_41 => ?_) (fun h_42 => ?_)
                    · have hc_43 := r_eq (rfl : (a1).toInt = _) (by decide : (ci 9).toInt = 9) h_41
                      exact ok_some trivial
                    · have hc_44 := r_ne (rfl : (a1).toInt = _) (by decide : (ci 9).toInt = 9) h_42
                      refine ok_ite (fun h_45 => ?_) (fun h_46 => ?_)
                      · have hc_47 := r_eq (rfl : (a1).toInt = _) (by decide : (ci 10).toInt = 10) h_45
                        exact ok_some trivial
                      · have hc_48 := r_ne (rfl : (a1).toInt = _) (by decide : (ci 10).toInt = 10) h_46
                        refine ok_ite (fun h_49 => ?_) (fun h_50 => ?_)
                        · have hc_51 := r_eq (rfl : (a1).toInt = _) (by decide : (ci 11).toInt = 11) h_49
                          exact ok_some trivial
                        · have hc_52 := r_ne (rfl : (a1).toInt = _) (by decide : (ci 11).toInt = 11) h_50
                          refine ok_ite (fun h_53 => ?_) (fun h_54 => ?_)
                          · have hc_55 := r_eq (rfl : (a1).toInt = _) (by decide : (ci 12).toInt = 12) h_53
                            exact ok_some trivial
                          · have hc_56 := r_ne (rfl : (a1).toInt = _) (by decide : (ci 12).toInt = 12) h_54
                            refine ok_ite (fun h_57 => ?_) (fun h_58 => ?_)
                            · have hc_59 := r_eq (rfl : (a1).toInt = _) (by decide : (ci 13).toInt = 13) h_57
                              exact ok_some trivial
                            · have hc_60 := r_ne (rfl : (a1).toInt = _) (by decide : (ci 13).toInt = 13) h_58
                              exact ok_some trivial
end
