noncomputable section
/-! IsHeIn.lack(I)I -/
theorem srt176 : m_srt mc176 = true := by decide +kernel
def F_X11_lack (a1 : Int32) (s : mG) : Option (Int32 × mG) :=
  if a1 = ci 0 then
    b1 (F_X2_keylessSet 1 s) fun v3 =>
    b1 (F_J6_bitCount_0f7a4 s v3) fun v5 =>
    some (v5, s)
  else
  if a1 = ci 1 then
    b2 (F_X0_keylessOut s) fun v9 s8 =>
    some (v9, s8)
  else
  if a1 = ci 2 then
    b1 (F_X2_keylessSet 1 s) fun v12 =>
    b1 (F_X2_outSet 1 s) fun v14 =>
    b1 (F_J6_bitCount_0f7a4 s (v12 &&& v14)) fun v16 =>
    some (v16, s)
  else
  some ((ci (-1)), s)
set_option maxRecDepth 4000 in
theorem k_X11_lack_r {N : Nat} {xs : Nat → Int32} (d : Nat) {r : Option Value × mH} {s : mG} {a1 : Int32} {τ : (Int32 × mG)} (hJ : F_X11_lack a1 s = some τ) (hC : (fun τ => r = (some (.int τ.1), (SH, τ.2))) τ) : Rn N xs (d + 6) me176 0 [some (.ref 0), some (.int a1)] [] (SH, s) r := by
  unfold F_X11_lack at hJ
  refine Rn_sq srt176 0 1 (pc' := 1) (ls' := [some (.ref 0), some (.int a1)]) (st' := [(.int a1)]) (h1 := (SH, s)) rfl ?_
  by_cases h1 : a1 = ci 0
  · replace hJ := m_ifp h1 hJ
    refine Rn_ev srt176 1 rfl rfl rfl (op_sw h1 (show _ = some (28, _) from rfl)) ?_
    refine Rn_sq srt176 2 2 (pc' := 32) (ls' := [some (.ref 0), some (.int a1)]) (st' := [(.ref 1)]) (h1 := (SH, s)) rfl ?_
    obtain ⟨v3, h2, hJ⟩ := m_b1 hJ
    refine Rn_call srt176 4 rfl rfl rfl ⟨Nat.le_of_ble_eq_true rfl, Nat.le_of_ble_eq_true rfl, rfl, Nat.le_of_ble_eq_true rfl⟩ (k_X2_keylessSet 1 (d + 4) isH_1 h2) (show Rn N xs (d + 6) me176 35 [some (.ref 0), some (.int a1)] [(.int v3)] (SH, s) r from ?_)
    obtain ⟨v5, h4, hJ⟩ := m_b1 hJ
    refine Rn_call srt176 5 rfl rfl rfl ⟨Nat.le_of_ble_eq_true rfl, Nat.le_of_ble_eq_true rfl, rfl, Nat.le_of_ble_eq_true rfl⟩ (k_J6_bitCount_0f7a4 (d + 5) h4) (show Rn N xs (d + 6) me176 38 [some (.ref 0), some (.int a1)] [(.int v5)] (SH, s) r from ?_)
    rw [← Option.some.inj hJ] at hC
    have hC : r = (some (.int v5), (SH, s)) := hC
    subst hC
    exact Rn_ret srt176 6 rfl rfl rfl
  replace hJ := m_ifn h1 hJ
  by_cases h6 : a1 = ci 1
  · replace hJ := m_ifp h6 hJ
    refine Rn_ev srt176 1 rfl rfl rfl (op_sw h6 (show _ = some (39, _) from rfl)) ?_
    refine Rn_sq srt176 7 2 (pc' := 43) (ls' := [some (.ref 0), some (.int a1)]) (st' := [(.ref 73)]) (h1 := (SH, s)) rfl ?_
    obtain ⟨v9, s8, h7, hJ⟩ := m_b2 hJ
    refine Rn_call srt176 9 rfl rfl rfl ⟨Nat.le_of_ble_eq_true rfl, Nat.le_of_ble_eq_true rfl, rfl, Nat.le_of_ble_eq_true rfl⟩ (k_X0_keylessOut (d) h7) (show Rn N xs (d + 6) me176 46 [some (.ref 0), some (.int a1)] [(.int v9)] (SH, s8) r from ?_)
    rw [← Option.some.inj hJ] at hC
    have hC : r = (some (.int v9), (SH, s8)) := hC
    subst hC
    exact Rn_ret srt176 10 rfl rfl rfl
  replace hJ := m_ifn h6 hJ
  by_cases h10 : a1 = ci 2
  · replace hJ := m_ifp h10 hJ
    refine Rn_ev srt176 1 rfl rfl rfl (op_sw h10 (show _ = some (47, _) from rfl)) ?_
    refine Rn_sq srt176 11 2 (pc' := 51) (ls' := [some (.ref 0), some (.int a1)]) (st' := [(.ref 1)]) (h1 := (SH, s)) rfl ?_
    obtain ⟨v12, h11, hJ⟩ := m_b1 hJ
    refine Rn_call srt176 13 rfl rfl rfl ⟨Nat.le_of_ble_eq_true rfl, Nat.le_of_ble_eq_true rfl, rfl, Nat.le_of_ble_eq_true rfl⟩ (k_X2_keylessSet 1 (d + 4) isH_1 h11) (show Rn N xs (d + 6) me176 54 [some (.ref 0), some (.int a1)] [(.int v12)] (SH, s) r from ?_)
    refine Rn_sq srt176 14 2 (pc' := 58) (ls' := [some (.ref 0), some (.int a1)]) (st' := [(.ref 1), (.int v12)]) (h1 := (SH, s)) rfl ?_
    obtain ⟨v14, h13, hJ⟩ := m_b1 hJ
    refine Rn_call srt176 16 rfl rfl rfl ⟨Nat.le_of_ble_eq_true rfl, Nat.le_of_ble_eq_true rfl, rfl, Nat.le_of_ble_eq_true rfl⟩ (k_X2_outSet 1 (d + 3) isH_1 h13) (show Rn N xs (d + 6) me176 61 [some (.ref 0), some (.int a1)] [(.int v14), (.int v12)] (SH, s) r from ?_)
    refine Rn_sq srt176 17 1 (pc' := 62) (ls' := [some (.ref 0), some (.int a1)]) (st' := [(.int (v12 &&& v14))]) (h1 := (SH, s)) rfl ?_
    obtain ⟨v16, h15, hJ⟩ := m_b1 hJ
    refine Rn_call srt176 18 rfl rfl rfl ⟨Nat.le_of_ble_eq_true rfl, Nat.le_of_ble_eq_true rfl, rfl, Nat.le_of_ble_eq_true rfl⟩ (k_J6_bitCount_0f7a4 (d + 5) h15) (show Rn N xs (d + 6) me176 65 [some (.ref 0), some (.int a1)] [(.int v16)] (SH, s) r from ?_)
    rw [← Option.some.inj hJ] at hC
    have hC : r = (some (.int v16), (SH, s)) := hC
    subst hC
    exact Rn_ret srt176 19 rfl rfl rfl
  replace hJ := m_ifn h10 hJ
  refine Rn_ev srt176 1 rfl rfl rfl (op_swd (tg := 66) (sw_out (by decide) (by decide) (by intro v hv1 hv2; rcases (show v = 0 ∨ v = 1 ∨ v = 2 by omega) with rfl | rfl | rfl <;> assumption)) rfl) ?_
  refine Rn_sq srt176 20 1 (pc' := 67) (ls' := [some (.ref 0), some (.int a1)]) (st' := [(.int (ci (-1)))]) (h1 := (SH, s)) rfl ?_
  rw [← Option.some.inj hJ] at hC
  have hC : r = (some (.int (ci (-1))), (SH, s)) := hC
  subst hC
  exact Rn_ret srt176 21 rfl rfl rfl
theorem k_X11_lack {N : Nat} {xs : Nat → Int32} (d : Nat) {s : mG} {a1 : Int32} {τ : (Int32 × mG)} (hJ : F_X11_lack a1 s = some τ) : Rn N xs (d + 6) me176 0 [some (.ref 0), some (.int a1)] [] (SH, s) (some (.int τ.1), (SH, τ.2)) := k_X11_lack_r d hJ rfl
/-! IsHeIn.visit(II)I -/
theorem srt177 : m_srt mc177 = true := by decide +kernel
def F_X11_visit_20 (s : mG) : Option (Int32 × mG) :=
  some ((ci (-1)), s)
set_option maxRecDepth 4000 in
theorem k_X11_visit_20 {N : Nat} {xs : Nat → Int32} (d : Nat) {r : Option Value × mH} {s : mG} {τ : (Int32 × mG)} (hJ : F_X11_visit_20 s = some τ) (hC : (fun τ => r = (some (.int τ.1), (SH, τ.2))) τ) : Rn N xs (d + 5) me177 20 [none, none, none] [] (SH, s) r := by
  unfold F_X11_visit_20 at hJ
  refine Rn_sq srt177 10 1 (pc' := 21) (ls' := [none, none, none]) (st' := [(.int (ci (-1)))]) (h1 := (SH, s)) rfl ?_
  rw [← Option.some.inj hJ] at hC
  have hC : r = (some (.int (ci (-1))), (SH, s)) := hC
  subst hC
  exact Rn_ret srt177 11 rfl rfl rfl
def F_X11_visit_45 (y1 : Int32) (y2 : Int32) (y3 : Int32) (s : mG) : Option (Int32 × mG) :=
  b2 (F_X1_bestVisit y1 y2 y3 s) fun v13 s12 =>
  some (v13, s12)
set_option maxRecDepth 4000 in
theorem k_X11_visit_45 {N : Nat} {xs : Nat → Int32} (d : Nat) {r : Option Value × mH} {s : mG} {y1 : Int32} {y2 : Int32} {y3 : Int32} {τ : (Int32 × mG)} (hJ : F_X11_visit_45 y1 y2 y3 s = some τ) (hC : (fun τ => r = (some (.int τ.1), (SH, τ.2))) τ) : Rn N xs (d + 5) me177 45 [none, none, none] [(.int y3), (.int y2), (.int y1), (.ref 77)] (SH, s) r := by
  unfold F_X11_visit_45 at hJ
  obtain ⟨v13, s12, h11, hJ⟩ := m_b2 hJ
  refine Rn_call srt177 25 rfl rfl rfl ⟨Nat.le_of_ble_eq_true rfl, Nat.le_of_ble_eq_true rfl, rfl, Nat.le_of_ble_eq_true rfl⟩ (k_X1_bestVisit (d + 1) h11) (show Rn N xs (d + 5) me177 48 [none, none, none] [(.int v13)] (SH, s12) r from ?_)
  rw [← Option.some.inj hJ] at hC
  have hC : r = (some (.int v13), (SH, s12)) := hC
  subst hC
  exact Rn_ret srt177 26 rfl rfl rfl
def F_X11_visit (a1 : Int32) (a2 : Int32) (s : mG) : Option (Int32 × mG) :=
  b1 (F_X2_isGuest 1 s a1) fun v2 =>
  if v2 = 0 then
    F_X11_visit_20 s
  else
    b1 (F_X11_isWithin s a2 (ci 0) (ci 1)) fun v5 =>
    if v5 = 0 then
      F_X11_visit_20 s
    else
      b2 (F_X0_sureOf a1 s) fun v9 s8 =>
      if a2 = (ci 1) then
        F_X11_visit_45 a1 v9 (ci 1) s8
      else
        F_X11_visit_45 a1 v9 (ci 0) s8
set_option maxRecDepth 4000 in
theorem k_X11_visit_r {N : Nat} {xs : Nat → Int32} (d : Nat) {r : Option Value × mH} {s : mG} {a1 : Int32} {a2 : Int32} {τ : (Int32 × mG)} (hJ : F_X11_visit a1 a2 s = some τ) (hC : (fun τ => r = (some (.int τ.1), (SH, τ.2))) τ) : Rn N xs (d + 5) me177 0 [some (.ref 0), some (.int a1), some (.int a2)] [] (SH, s) r := by
  unfold F_X11_visit at hJ
  refine Rn_sq srt177 0 3 (pc' := 5) (ls' := [some (.ref 0), some (.int a1), some (.int a2)]) (st' := [(.int a1), (.ref 1)]) (h1 := (SH, s)) rfl ?_
  obtain ⟨v2, h1, hJ⟩ := m_b1 hJ
  refine Rn_call srt177 3 rfl rfl rfl ⟨Nat.le_of_ble_eq_true rfl, Nat.le_of_ble_eq_true rfl, rfl, Nat.le_of_ble_eq_true rfl⟩ (k_X2_isGuest 1 (d + 3) isH_1 h1) (show Rn N xs (d + 5) me177 8 [some (.ref 0), some (.int a1), some (.int a2)] [(.int v2)] (SH, s) r from ?_)
  refine Rn_sq srt177 4 1 (pc' := (if v2 = 0 then 20 else 11)) (ls' := [some (.ref 0), some (.int a1), some (.int a2)]) (st' := []) (h1 := (SH, s)) rfl (Rn_if (fun h3 => ?_) (fun h3 => ?_))
  · replace hJ := m_ifp h3 hJ
    exact Rn_weaken (a := [none, none, none]) (b := [some (.ref 0), some (.int a1), some (.int a2)]) trivial rfl (k_X11_visit_20 d hJ hC)
  · replace hJ := m_ifn h3 hJ
    refine Rn_sq srt177 5 3 (pc' := 14) (ls' := [some (.ref 0), some (.int a1), some (.int a2)]) (st' := [(.int (ci 1)), (.int (ci 0)), (.int a2)]) (h1 := (SH, s)) rfl ?_
    obtain ⟨v5, h4, hJ⟩ := m_b1 hJ
    refine Rn_call srt177 8 rfl rfl rfl ⟨Nat.le_of_ble_eq_true rfl, Nat.le_of_ble_eq_true rfl, rfl, Nat.le_of_ble_eq_true rfl⟩ (k_X11_isWithin (d + 4) h4) (show Rn N xs (d + 5) me177 17 [some (.ref 0), some (.int a1), some (.int a2)] [(.int v5)] (SH, s) r from ?_)
    refine Rn_sq srt177 9 1 (pc' := (if v5 = 0 then 20 else 22)) (ls' := [some (.ref 0), some (.int a1), some (.int a2)]) (st' := []) (h1 := (SH, s)) rfl (Rn_if (fun h6 => ?_) (fun h6 => ?_))
    · replace hJ := m_ifp h6 hJ
      exact Rn_weaken (a := [none, none, none]) (b := [some (.ref 0), some (.int a1), some (.int a2)]) trivial rfl (k_X11_visit_20 d hJ hC)
    · replace hJ := m_ifn h6 hJ
      refine Rn_sq srt177 12 6 (pc' := 32) (ls' := [some (.ref 0), some (.int a1), some (.int a2)]) (st' := [(.int a1), (.ref 73), (.int a1), (.ref 77)]) (h1 := (SH, s)) rfl ?_
      obtain ⟨v9, s8, h7, hJ⟩ := m_b2 hJ
      refine Rn_call srt177 18 rfl rfl rfl ⟨Nat.le_of_ble_eq_true rfl, Nat.le_of_ble_eq_true rfl, rfl, Nat.le_of_ble_eq_true rfl⟩ (k_X0_sureOf (d) h7) (show Rn N xs (d + 5) me177 35 [some (.ref 0), some (.int a1), some (.int a2)] [(.int v9), (.int a1), (.ref 77)] (SH, s8) r from ?_)
      refine Rn_sq srt177 19 3 (pc' := (if a2 = (ci 1) then 40 else 44)) (ls' := [some (.ref 0), some (.int a1), some (.int a2)]) (st' := [(.int v9), (.int a1), (.ref 77)]) (h1 := (SH, s8)) rfl (Rn_if (fun h10 => ?_) (fun h10 => ?_))
      · replace hJ := m_ifp h10 hJ
        refine Rn_sq srt177 22 2 (pc' := 45) (ls' := [some (.ref 0), some (.int a1), some (.int a2)]) (st' := [(.int (ci 1)), (.int v9), (.int a1), (.ref 77)]) (h1 := (SH, s8)) rfl ?_
        exact Rn_weaken (a := [none, none, none]) (b := [some (.ref 0), some (.int a1), some (.int a2)]) trivial rfl (k_X11_visit_45 d hJ hC)
      · replace hJ := m_ifn h10 hJ
        refine Rn_sq srt177 24 1 (pc' := 45) (ls' := [some (.ref 0), some (.int a1), some (.int a2)]) (st' := [(.int (ci 0)), (.int v9), (.int a1), (.ref 77)]) (h1 := (SH, s8)) rfl ?_
        exact Rn_weaken (a := [none, none, none]) (b := [some (.ref 0), some (.int a1), some (.int a2)]) trivial rfl (k_X11_visit_45 d hJ hC)
theorem k_X11_visit {N : Nat} {xs : Nat → Int32} (d : Nat) {s : mG} {a1 : Int32} {a2 : Int32} {τ : (Int32 × mG)} (hJ : F_X11_visit a1 a2 s = some τ) : Rn N xs (d + 5) me177 0 [some (.ref 0), some (.int a1), some (.int a2)] [] (SH, s) (some (.int τ.1), (SH, τ.2)) := k_X11_visit_r d hJ rfl
/-! IsHeIn.expect()I -/
theorem srt178 : m_srt mc178 = true := by decide +kernel
def F_X11_expect (s : mG) : Option (Int32 × mG) :=
  b2 (F_X1_movesNow s) fun v3 s2 =>
  some ((v3 / (c16 1000)), s2)
set_option maxRecDepth 4000 in
theorem k_X11_expect_r {N : Nat} {xs : Nat → Int32} (d : Nat) {r : Option Value × mH} {s : mG} {τ : (Int32 × mG)} (hJ : F_X11_expect s = some τ) (hC : (fun τ => r = (some (.int τ.1), (SH, τ.2))) τ) : Rn N xs (d + 5) me178 0 [some (.ref 0)] [] (SH, s) r := by
  unfold F_X11_expect at hJ
  refine Rn_sq srt178 0 2 (pc' := 4) (ls' := [some (.ref 0)]) (st' := [(.ref 77)]) (h1 := (SH, s)) rfl ?_
  obtain ⟨v3, s2, h1, hJ⟩ := m_b2 hJ
  refine Rn_call srt178 2 rfl rfl rfl ⟨Nat.le_of_ble_eq_true rfl, Nat.le_of_ble_eq_true rfl, rfl, Nat.le_of_ble_eq_true rfl⟩ (k_X1_movesNow (d) h1) (show Rn N xs (d + 5) me178 7 [some (.ref 0)] [(.int v3)] (SH, s2) r from ?_)
  refine Rn_sq srt178 3 1 (pc' := 10) (ls' := [some (.ref 0)]) (st' := [(.int (c16 1000)), (.int v3)]) (h1 := (SH, s2)) rfl ?_
  refine Rn_ev srt178 4 rfl rfl rfl (op_idiv (by decide)) ?_
  rw [← Option.some.inj hJ] at hC
  have hC : r = (some (.int (v3 / (c16 1000))), (SH, s2)) := hC
  subst hC
  exact Rn_ret srt178 5 rfl rfl rfl
theorem k_X11_expect {N : Nat} {xs : Nat → Int32} (d : Nat) {s : mG} {τ : (Int32 × mG)} (hJ : F_X11_expect s = some τ) : Rn N xs (d + 5) me178 0 [some (.ref 0)] [] (SH, s) (some (.int τ.1), (SH, τ.2)) := k_X11_expect_r d hJ rfl
/-! IsHeIn.busy(I)I -/
theorem srt179 : m_srt mc179 = true := by decide +kernel
def F_X11_busy (a1 : Int32) (s : mG) : Option (Int32 × mG) :=
  if a1 = 0 then
    b2 (F_X1_busiestClock s) fun v4 s3 =>
    some (v4, s3)
  else
    if a1 = (ci 1) then
      b2 (F_X1_busiestClock s) fun v8 s7 =>
      b2 (F_X1_movesAt v8 s7) fun v11 s10 =>
      some ((v11 / (c16 1000)), s10)
    else
      some ((ci (-1)), s)
set_option maxRecDepth 4000 in
theorem k_X11_busy_r {N : Nat} {xs : Nat → Int32} (d : Nat) {r : Option Value × mH} {s : mG} {a1 : Int32} {τ : (Int32 × mG)} (hJ : F_X11_busy a1 s = some τ) (hC : (fun τ => r = (some (.int τ.1), (SH, τ.2))) τ) : Rn N xs (d + 5) me179 0 [some (.ref 0), some (.int a1)] [] (SH, s) r := by
  unfold F_X11_busy at hJ
  refine Rn_sq srt179 0 2 (pc' := (if a1 = 0 then 4 else 12)) (ls' := [some (.ref 0), some (.int a1)]) (st' := []) (h1 := (SH, s)) rfl (Rn_if (fun h1 => ?_) (fun h1 => ?_))
  · replace hJ := m_ifp h1 hJ
    refine Rn_sq srt179 2 2 (pc' := 8) (ls' := [some (.ref 0), some (.int a1)]) (st' := [(.ref 77)]) (h1 := (SH, s)) rfl ?_
    obtain ⟨v4, s3, h2, hJ⟩ := m_b2 hJ
    refine Rn_call srt179 4 rfl rfl rfl ⟨Nat.le_of_ble_eq_true rfl, Nat.le_of_ble_eq_true rfl, rfl, Nat.le_of_ble_eq_true rfl⟩ (k_X1_busiestClock (d) h2) (show Rn N xs (d + 5) me179 11 [some (.ref 0), some (.int a1)] [(.int v4)] (SH, s3) r from ?_)
    rw [← Option.some.inj hJ] at hC
    have hC : r = (some (.int v4), (SH, s3)) := hC
    subst hC
    exact Rn_ret srt179 5 rfl rfl rfl
  · replace hJ := m_ifn h1 hJ
    refine Rn_sq srt179 6 3 (pc' := (if a1 = (ci 1) then 17 else 38)) (ls' := [some (.ref 0), some (.int a1)]) (st' := []) (h1 := (SH, s)) rfl (Rn_if (fun h5 => ?_) (fun h5 => ?_))
    · replace hJ := m_ifp h5 hJ
      refine Rn_sq srt179 9 4 (pc' := 25) (ls' := [some (.ref 0), some (.int a1)]) (st' := [(.ref 77), (.ref 77)]) (h1 := (SH, s)) rfl ?_
      obtain ⟨v8, s7, h6, hJ⟩ := m_b2 hJ
      refine Rn_call srt179 13 rfl rfl rfl ⟨Nat.le_of_ble_eq_true rfl, Nat.le_of_ble_eq_true rfl, rfl, Nat.le_of_ble_eq_true rfl⟩ (k_X1_busiestClock (d) h6) (show Rn N xs (d + 5) me179 28 [some (.ref 0), some (.int a1)] [(.int v8), (.ref 77)] (SH, s7) r from ?_)
      obtain ⟨v11, s10, h9, hJ⟩ := m_b2 hJ
      refine Rn_call srt179 14 rfl rfl rfl ⟨Nat.le_of_ble_eq_true rfl, Nat.le_of_ble_eq_true rfl, rfl, Nat.le_of_ble_eq_true rfl⟩ (k_X1_movesAt (d + 1) h9) (show Rn N xs (d + 5) me179 31 [some (.ref 0), some (.int a1)] [(.int v11)] (SH, s10) r from ?_)
      refine Rn_sq srt179 15 1 (pc' := 34) (ls' := [some (.ref 0), some (.int a1)]) (st' := [(.int (c16 1000)), (.int v11)]) (h1 := (SH, s10)) rfl ?_
      refine Rn_ev srt179 16 rfl rfl rfl (op_idiv (by decide)) ?_
      refine Rn_sq srt179 17 1 (pc' := 39) (ls' := [some (.ref 0), some (.int a1)]) (st' := [(.int (v11 / (c16 1000)))]) (h1 := (SH, s10)) rfl ?_
      rw [← Option.some.inj hJ] at hC
      have hC : r = (some (.int (v11 / (c16 1000))), (SH, s10)) := hC
      subst hC
      exact Rn_ret srt179 19 rfl rfl rfl
    · replace hJ := m_ifn h5 hJ
      refine Rn_sq srt179 18 1 (pc' := 39) (ls' := [some (.ref 0), some (.int a1)]) (st' := [(.int (ci (-1)))]) (h1 := (SH, s)) rfl ?_
      rw [← Option.some.inj hJ] at hC
      have hC : r = (some (.int (ci (-1))), (SH, s)) := hC
      subst hC
      exact Rn_ret srt179 19 rfl rfl rfl
theorem k_X11_busy {N : Nat} {xs : Nat → Int32} (d : Nat) {s : mG} {a1 : Int32} {τ : (Int32 × mG)} (hJ : F_X11_busy a1 s = some τ) : Rn N xs (d + 5) me179 0 [some (.ref 0), some (.int a1)] [] (SH, s) (some (.int τ.1), (SH, τ.2)) := k_X11_busy_r d hJ rfl
/-! IsHeIn.tagCost(III)I -/
theorem srt180 : m_srt mc180 = true := by decide +kernel
def F_X11_tagCost_32 (s : mG) : Option (Int32 × mG) :=
  some ((ci (-1)), s)
set_option maxRecDepth 4000 in
theorem k_X11_tagCost_32 {N : Nat} {xs : Nat → Int32} (d : Nat) {r : Option Value × mH} {s : mG} {τ : (Int32 × mG)} (hJ : F_X11_tagCost_32 s = some τ) (hC : (fun τ => r = (some (.int τ.1), (SH, τ.2))) τ) : Rn N xs (d + 4) me180 32 [none, none, none, none] [] (SH, s) r := by
  unfold F_X11_tagCost_32 at hJ
  refine Rn_sq srt180 15 1 (pc' := 33) (ls' := [none, none, none, none]) (st' := [(.int (ci (-1)))]) (h1 := (SH, s)) rfl ?_
  rw [← Option.some.inj hJ] at hC
  have hC : r = (some (.int (ci (-1))), (SH, s)) := hC
  subst hC
  exact Rn_ret srt180 16 rfl rfl rfl
def F_X11_tagCost (a1 : Int32) (a2 : Int32) (a3 : Int32) (s : mG) : Option (Int32 × mG) :=
  b1 (F_X11_isWithin s a1 (ci 0) (c16 999)) fun v2 =>
  if v2 = 0 then
    F_X11_tagCost_32 s
  else
    b1 (F_X11_isWithin s a2 (ci 0) (c16 999)) fun v5 =>
    if v5 = 0 then
      F_X11_tagCost_32 s
    else
      b1 (F_X11_isWithin s a3 (ci 0) (c8 20)) fun v8 =>
      if v8 = 0 then
        F_X11_tagCost_32 s
      else
        b2 (F_X1_costOfTag a1 a2 a3 s) fun v12 s11 =>
        some (v12, s11)
set_option maxRecDepth 4000 in
theorem k_X11_tagCost_r {N : Nat} {xs : Nat → Int32} (d : Nat) {r : Option Value × mH} {s : mG} {a1 : Int32} {a2 : Int32} {a3 : Int32} {τ : (Int32 × mG)} (hJ : F_X11_tagCost a1 a2 a3 s = some τ) (hC : (fun τ => r = (some (.int τ.1), (SH, τ.2))) τ) : Rn N xs (d + 4) me180 0 [some (.ref 0), some (.int a1), some (.int a2), some (.int a3)] [] (SH, s) r := by
  unfold F_X11_tagCost at hJ
  refine Rn_sq srt180 0 3 (pc' := 5) (ls' := [some (.ref 0), some (.int a1), some (.int a2), some (.int a3)]) (st' := [(.int (c16 999)), (.int (ci 0)), (.int a1)]) (h1 := (SH, s)) rfl ?_
  obtain ⟨v2, h1, hJ⟩ := m_b1 hJ
  refine Rn_call srt180 3 rfl rfl rfl ⟨Nat.le_of_ble_eq_true rfl, Nat.le_of_ble_eq_true rfl, rfl, Nat.le_of_ble_eq_true rfl⟩ (k_X11_isWithin (d + 3) h1) (show Rn N xs (d + 4) me180 8 [some (.ref 0), some (.int a1), some (.int a2), some (.int a3)] [(.int v2)] (SH, s) r from ?_)
  refine Rn_sq srt180 4 1 (pc' := (if v2 = 0 then 32 else 11)) (ls' := [some (.ref 0), some (.int a1), some (.int a2), some (.int a3)]) (st' := []) (h1 := (SH, s)) rfl (Rn_if (fun h3 => ?_) (fun h3 => ?_))
  · replace hJ := m_ifp h3 hJ
    exact Rn_weaken (a := [none, none, none, none]) (b := [some (.ref 0), some (.int a1), some (.int a2), some (.int a3)]) trivial rfl (k_X11_tagCost_32 d hJ hC)
  · replace hJ := m_ifn h3 hJ
    refine Rn_sq srt180 5 3 (pc' := 16) (ls' := [some (.ref 0), some (.int a1), some (.int a2), some (.int a3)]) (st' := [(.int (c16 999)), (.int (ci 0)), (.int a2)]) (h1 := (SH, s)) rfl ?_
    obtain ⟨v5, h4, hJ⟩ := m_b1 hJ
    refine Rn_call srt180 8 rfl rfl rfl ⟨Nat.le_of_ble_eq_true rfl, Nat.le_of_ble_eq_true rfl, rfl, Nat.le_of_ble_eq_true rfl⟩ (k_X11_isWithin (d + 3) h4) (show Rn N xs (d + 4) me180 19 [some (.ref 0), some (.int a1), some (.int a2), some (.int a3)] [(.int v5)] (SH, s) r from ?_)
    refine Rn_sq srt180 9 1 (pc' := (if v5 = 0 then 32 else 22)) (ls' := [some (.ref 0), some (.int a1), some (.int a2), some (.int a3)]) (st' := []) (h1 := (SH, s)) rfl (Rn_if (fun h6 => ?_) (fun h6 => ?_))
    · replace hJ := m_ifp h6 hJ
      exact Rn_weaken (a := [none, none, none, none]) (b := [some (.ref 0), some (.int a1), some (.int a2), some (.int a3)]) trivial rfl (k_X11_tagCost_32 d hJ hC)
    · replace hJ := m_ifn h6 hJ
      refine Rn_sq srt180 10 3 (pc' := 26) (ls' := [some (.ref 0), some (.int a1), some (.int a2), some (.int a3)]) (st' := [(.int (c8 20)), (.int (ci 0)), (.int a3)]) (h1 := (SH, s)) rfl ?_
      obtain ⟨v8, h7, hJ⟩ := m_b1 hJ
      refine Rn_call srt180 13 rfl rfl rfl ⟨Nat.le_of_ble_eq_true rfl, Nat.le_of_ble_eq_true rfl, rfl, Nat.le_of_ble_eq_true rfl⟩ (k_X11_isWithin (d + 3) h7) (show Rn N xs (d + 4) me180 29 [some (.ref 0), some (.int a1), some (.int a2), some (.int a3)] [(.int v8)] (SH, s) r from ?_)
      refine Rn_sq srt180 14 1 (pc' := (if v8 = 0 then 32 else 34)) (ls' := [some (.ref 0), some (.int a1), some (.int a2), some (.int a3)]) (st' := []) (h1 := (SH, s)) rfl (Rn_if (fun h9 => ?_) (fun h9 => ?_))
      · replace hJ := m_ifp h9 hJ
        exact Rn_weaken (a := [none, none, none, none]) (b := [some (.ref 0), some (.int a1), some (.int a2), some (.int a3)]) trivial rfl (k_X11_tagCost_32 d hJ hC)
      · replace hJ := m_ifn h9 hJ
        refine Rn_sq srt180 17 5 (pc' := 41) (ls' := [some (.ref 0), some (.int a1), some (.int a2), some (.int a3)]) (st' := [(.int a3), (.int a2), (.int a1), (.ref 77)]) (h1 := (SH, s)) rfl ?_
        obtain ⟨v12, s11, h10, hJ⟩ := m_b2 hJ
        refine Rn_call srt180 22 rfl rfl rfl ⟨Nat.le_of_ble_eq_true rfl, Nat.le_of_ble_eq_true rfl, rfl, Nat.le_of_ble_eq_true rfl⟩ (k_X1_costOfTag (d) h10) (show Rn N xs (d + 4) me180 44 [some (.ref 0), some (.int a1), some (.int a2), some (.int a3)] [(.int v12)] (SH, s11) r from ?_)
        rw [← Option.some.inj hJ] at hC
        have hC : r = (some (.int v12), (SH, s11)) := hC
        subst hC
        exact Rn_ret srt180 23 rfl rfl rfl
theorem k_X11_tagCost {N : Nat} {xs : Nat → Int32} (d : Nat) {s : mG} {a1 : Int32} {a2 : Int32} {a3 : Int32} {τ : (Int32 × mG)} (hJ : F_X11_tagCost a1 a2 a3 s = some τ) : Rn N xs (d + 4) me180 0 [some (.ref 0), some (.int a1), some (.int a2), some (.int a3)] [] (SH, s) (some (.int τ.1), (SH, τ.2)) := k_X11_tagCost_r d hJ rfl
/-! IsHeIn.tag(II)I -/
theorem srt181 : m_srt mc181 = true := by decide +kernel
def F_X11_tag_22 (s : mG) : Option (Int32 × mG) :=
  some ((ci (-1)), s)
set_option maxRecDepth 4000 in
theorem k_X11_tag_22 {N : Nat} {xs : Nat → Int32} (d : Nat) {r : Option Value × mH} {s : mG} {τ : (Int32 × mG)} (hJ : F_X11_tag_22 s = some τ) (hC : (fun τ => r = (some (.int τ.1), (SH, τ.2))) τ) : Rn N xs (d + 5) me181 22 [none, none, none] [] (SH, s) r := by
  unfold F_X11_tag_22 at hJ
  refine Rn_sq srt181 10 1 (pc' := 23) (ls' := [none, none, none]) (st' := [(.int (ci (-1)))]) (h1 := (SH, s)) rfl ?_
  rw [← Option.some.inj hJ] at hC
  have hC : r = (some (.int (ci (-1))), (SH, s)) := hC
  subst hC
  exact Rn_ret srt181 11 rfl rfl rfl
def F_X11_tag (a1 : Int32) (a2 : Int32) (s : mG) : Option (Int32 × mG) :=
  b1 (F_X11_isWithin s a1 (ci 0) (c16 999)) fun v2 =>
  if v2 = 0 then
    F_X11_tag_22 s
  else
    b1 (F_X11_isWithin s a2 (ci 0) (c16 999)) fun v5 =>
    if v5 = 0 then
      F_X11_tag_22 s
    else
      b2 (F_X1_bestTag a1 a2 s) fun v9 s8 =>
      some (v9, s8)
set_option maxRecDepth 4000 in
theorem k_X11_tag_r {N : Nat} {xs : Nat → Int32} (d : Nat) {r : Option Value × mH} {s : mG} {a1 : Int32} {a2 : Int32} {τ : (Int32 × mG)} (hJ : F_X11_tag a1 a2 s = some τ) (hC : (fun τ => r = (some (.int τ.1), (SH, τ.2))) τ) : Rn N xs (d + 5) me181 0 [some (.ref 0), some (.int a1), some (.int a2)] [] (SH, s) r := by
  unfold F_X11_tag at hJ
  refine Rn_sq srt181 0 3 (pc' := 5) (ls' := [some (.ref 0), some (.int a1), some (.int a2)]) (st' := [(.int (c16 999)), (.int (ci 0)), (.int a1)]) (h1 := (SH, s)) rfl ?_
  obtain ⟨v2, h1, hJ⟩ := m_b1 hJ
  refine Rn_call srt181 3 rfl rfl rfl ⟨Nat.le_of_ble_eq_true rfl, Nat.le_of_ble_eq_true rfl, rfl, Nat.le_of_ble_eq_true rfl⟩ (k_X11_isWithin (d + 4) h1) (show Rn N xs (d + 5) me181 8 [some (.ref 0), some (.int a1), some (.int a2)] [(.int v2)] (SH, s) r from ?_)
  refine Rn_sq srt181 4 1 (pc' := (if v2 = 0 then 22 else 11)) (ls' := [some (.ref 0), some (.int a1), some (.int a2)]) (st' := []) (h1 := (SH, s)) rfl (Rn_if (fun h3 => ?_) (fun h3 => ?_))
  · replace hJ := m_ifp h3 hJ
    exact Rn_weaken (a := [none, none, none]) (b := [some (.ref 0), some (.int a1), some (.int a2)]) trivial rfl (k_X11_tag_22 d hJ hC)
  · replace hJ := m_ifn h3 hJ
    refine Rn_sq srt181 5 3 (pc' := 16) (ls' := [some (.ref 0), some (.int a1), some (.int a2)]) (st' := [(.int (c16 999)), (.int (ci 0)), (.int a2)]) (h1 := (SH, s)) rfl ?_
    obtain ⟨v5, h4, hJ⟩ := m_b1 hJ
    refine Rn_call srt181 8 rfl rfl rfl ⟨Nat.le_of_ble_eq_true rfl, Nat.le_of_ble_eq_true rfl, rfl, Nat.le_of_ble_eq_true rfl⟩ (k_X11_isWithin (d + 4) h4) (show Rn N xs (d + 5) me181 19 [some (.ref 0), some (.int a1), some (.int a2)] [(.int v5)] (SH, s) r from ?_)
    refine Rn_sq srt181 9 1 (pc' := (if v5 = 0 then 22 else 24)) (ls' := [some (.ref 0), some (.int a1), some (.int a2)]) (st' := []) (h1 := (SH, s)) rfl (Rn_if (fun h6 => ?_) (fun h6 => ?_))
    · replace hJ := m_ifp h6 hJ
      exact Rn_weaken (a := [none, none, none]) (b := [some (.ref 0), some (.int a1), some (.int a2)]) trivial rfl (k_X11_tag_22 d hJ hC)
    · replace hJ := m_ifn h6 hJ
      refine Rn_sq srt181 12 4 (pc' := 30) (ls' := [some (.ref 0), some (.int a1), some (.int a2)]) (st' := [(.int a2), (.int a1), (.ref 77)]) (h1 := (SH, s)) rfl ?_
      obtain ⟨v9, s8, h7, hJ⟩ := m_b2 hJ
      refine Rn_call srt181 16 rfl rfl rfl ⟨Nat.le_of_ble_eq_true rfl, Nat.le_of_ble_eq_true rfl, rfl, Nat.le_of_ble_eq_true rfl⟩ (k_X1_bestTag (d) h7) (show Rn N xs (d + 5) me181 33 [some (.ref 0), some (.int a1), some (.int a2)] [(.int v9)] (SH, s8) r from ?_)
      rw [← Option.some.inj hJ] at hC
      have hC : r = (some (.int v9), (SH, s8)) := hC
      subst hC
      exact Rn_ret srt181 17 rfl rfl rfl
theorem k_X11_tag {N : Nat} {xs : Nat → Int32} (d : Nat) {s : mG} {a1 : Int32} {a2 : Int32} {τ : (Int32 × mG)} (hJ : F_X11_tag a1 a2 s = some τ) : Rn N xs (d + 5) me181 0 [some (.ref 0), some (.int a1), some (.int a2)] [] (SH, s) (some (.int τ.1), (SH, τ.2)) := k_X11_tag_r d hJ rfl
/-! IsHeIn.stands(II)I -/
theorem srt182 : m_srt mc182 = true := by decide +kernel
def F_X11_stands_26 (s : mG) : Option (Int32 × mG) :=
  some ((ci (-1)), s)
set_option maxRecDepth 4000 in
theorem k_X11_stands_26 {N : Nat} {xs : Nat → Int32} (d : Nat) {r : Option Value × mH} {s : mG} {τ : (Int32 × mG)} (hJ : F_X11_stands_26 s = some τ) (hC : (fun τ => r = (some (.int τ.1), (SH, τ.2))) τ) : Rn N xs (d + 5) me182 26 [none, none, none] [] (SH, s) r := by
  unfold F_X11_stands_26 at hJ
  refine Rn_sq srt182 12 1 (pc' := 27) (ls' := [none, none, none]) (st' := [(.int (ci (-1)))]) (h1 := (SH, s)) rfl ?_
  rw [← Option.some.inj hJ] at hC
  have hC : r = (some (.int (ci (-1))), (SH, s)) := hC
  subst hC
  exact Rn_ret srt182 13 rfl rfl rfl
def F_X11_stands_28 (x1 : Int32) (x2 : Int32) (s : mG) : Option (Int32 × mG) :=
  b1 (F_X1_plan x1 s) fun s6 =>
  if x2 = 0 then
    b1 (F_X1_mostSeen s6) fun v9 =>
    some (v9, s6)
  else
    b1 (F_X1_doorAt s6 (x2 - (c8 10)) x1) fun v11 =>
    some (v11, s6)
set_option maxRecDepth 4000 in
theorem k_X11_stands_28 {N : Nat} {xs : Nat → Int32} (d : Nat) {r : Option Value × mH} {s : mG} {x1 : Int32} {x2 : Int32} {τ : (Int32 × mG)} (hJ : F_X11_stands_28 x1 x2 s = some τ) (hC : (fun τ => r = (some (.int τ.1), (SH, τ.2))) τ) : Rn N xs (d + 5) me182 28 [some (.ref 0), some (.int x1), some (.int x2)] [] (SH, s) r := by
  unfold F_X11_stands_28 at hJ
  refine Rn_sq srt182 14 3 (pc' := 33) (ls' := [some (.ref 0), some (.int x1), some (.int x2)]) (st' := [(.int x1), (.ref 77)]) (h1 := (SH, s)) rfl ?_
  obtain ⟨s6, h5, hJ⟩ := m_b1 hJ
  refine Rn_call srt182 17 rfl rfl rfl ⟨Nat.le_of_ble_eq_true rfl, Nat.le_of_ble_eq_true rfl, rfl, Nat.le_of_ble_eq_true rfl⟩ (k_X1_plan (d) h5) (show Rn N xs (d + 5) me182 36 [some (.ref 0), some (.int x1), some (.int x2)] [] (SH, s6) r from ?_)
  refine Rn_sq srt182 18 2 (pc' := (if x2 = 0 then 40 else 50)) (ls' := [some (.ref 0), some (.int x1), some (.int x2)]) (st' := []) (h1 := (SH, s6)) rfl (Rn_if (fun h7 => ?_) (fun h7 => ?_))
  · replace hJ := m_ifp h7 hJ
    refine Rn_sq srt182 20 2 (pc' := 44) (ls' := [some (.ref 0), some (.int x1), some (.int x2)]) (st' := [(.ref 77)]) (h1 := (SH, s6)) rfl ?_
    obtain ⟨v9, h8, hJ⟩ := m_b1 hJ
    refine Rn_call srt182 22 rfl rfl rfl ⟨Nat.le_of_ble_eq_true rfl, Nat.le_of_ble_eq_true rfl, rfl, Nat.le_of_ble_eq_true rfl⟩ (k_X1_mostSeen (d + 3) h8) (show Rn N xs (d + 5) me182 47 [some (.ref 0), some (.int x1), some (.int x2)] [(.int v9)] (SH, s6) r from ?_)
    refine Rn_sq srt182 23 1 (pc' := 62) (ls' := [some (.ref 0), some (.int x1), some (.int x2)]) (st' := [(.int v9)]) (h1 := (SH, s6)) rfl ?_
    rw [← Option.some.inj hJ] at hC
    have hC : r = (some (.int v9), (SH, s6)) := hC
    subst hC
    exact Rn_ret srt182 31 rfl rfl rfl
  · replace hJ := m_ifn h7 hJ
    refine Rn_sq srt182 24 6 (pc' := 59) (ls' := [some (.ref 0), some (.int x1), some (.int x2)]) (st' := [(.int x1), (.int (x2 - (c8 10))), (.ref 77)]) (h1 := (SH, s6)) rfl ?_
    obtain ⟨v11, h10, hJ⟩ := m_b1 hJ
    refine Rn_call srt182 30 rfl rfl rfl ⟨Nat.le_of_ble_eq_true rfl, Nat.le_of_ble_eq_true rfl, rfl, Nat.le_of_ble_eq_true rfl⟩ (k_X1_doorAt (d + 2) h10) (show Rn N xs (d + 5) me182 62 [some (.ref 0), some (.int x1), some (.int x2)] [(.int v11)] (SH, s6) r from ?_)
    rw [← Option.some.inj hJ] at hC
    have hC : r = (some (.int v11), (SH, s6)) := hC
    subst hC
    exact Rn_ret srt182 31 rfl rfl rfl
def F_X11_stands (a1 : Int32) (a2 : Int32) (s : mG) : Option (Int32 × mG) :=
  b1 (F_X11_isWithin s a1 (ci 0) (c16 999)) fun v2 =>
  if v2 = 0 then
    F_X11_stands_26 s
  else
    if a2 = 0 then
      F_X11_stands_28 a1 a2 s
    else
      b1 (F_X11_isWithin s a2 (c8 10) (c8 33)) fun v13 =>
      if v13 = 0 then
        F_X11_stands_26 s
      else
        F_X11_stands_28 a1 a2 s
set_option maxRecDepth 4000 in
theorem k_X11_stands_r {N : Nat} {xs : Nat → Int32} (d : Nat) {r : Option Value × mH} {s : mG} {a1 : Int32} {a2 : Int32} {τ : (Int32 × mG)} (hJ : F_X11_stands a1 a2 s = some τ) (hC : (fun τ => r = (some (.int τ.1), (SH, τ.2))) τ) : Rn N xs (d + 5) me182 0 [some (.ref 0), some (.int a1), some (.int a2)] [] (SH, s) r := by
  unfold F_X11_stands at hJ
  refine Rn_sq srt182 0 3 (pc' := 5) (ls' := [some (.ref 0), some (.int a1), some (.int a2)]) (st' := [(.int (c16 999)), (.int (ci 0)), (.int a1)]) (h1 := (SH, s)) rfl ?_
  obtain ⟨v2, h1, hJ⟩ := m_b1 hJ
  refine Rn_call srt182 3 rfl rfl rfl ⟨Nat.le_of_ble_eq_true rfl, Nat.le_of_ble_eq_true rfl, rfl, Nat.le_of_ble_eq_true rfl⟩ (k_X11_isWithin (d + 4) h1) (show Rn N xs (d + 5) me182 8 [some (.ref 0), some (.int a1), some (.int a2)] [(.int v2)] (SH, s) r from ?_)
  refine Rn_sq srt182 4 1 (pc' := (if v2 = 0 then 26 else 11)) (ls' := [some (.ref 0), some (.int a1), some (.int a2)]) (st' := []) (h1 := (SH, s)) rfl (Rn_if (fun h3 => ?_) (fun h3 => ?_))
  · replace hJ := m_ifp h3 hJ
    exact Rn_weaken (a := [none, none, none]) (b := [some (.ref 0), some (.int a1), some (.int a2)]) trivial rfl (k_X11_stands_26 d hJ hC)
  · replace hJ := m_ifn h3 hJ
    refine Rn_sq srt182 5 2 (pc' := (if a2 = 0 then 28 else 15)) (ls' := [some (.ref 0), some (.int a1), some (.int a2)]) (st' := []) (h1 := (SH, s)) rfl (Rn_if (fun h4 => ?_) (fun h4 => ?_))
    · replace hJ := m_ifp h4 hJ
      exact (k_X11_stands_28 d hJ hC)
    · replace hJ := m_ifn h4 hJ
      refine Rn_sq srt182 7 3 (pc' := 20) (ls' := [some (.ref 0), some (.int a1), some (.int a2)]) (st' := [(.int (c8 33)), (.int (c8 10)), (.int a2)]) (h1 := (SH, s)) rfl ?_
      obtain ⟨v13, h12, hJ⟩ := m_b1 hJ
      refine Rn_call srt182 10 rfl rfl rfl ⟨Nat.le_of_ble_eq_true rfl, Nat.le_of_ble_eq_true rfl, rfl, Nat.le_of_ble_eq_true rfl⟩ (k_X11_isWithin (d + 4) h12) (show Rn N xs (d + 5) me182 23 [some (.ref 0), some (.int a1), some (.int a2)] [(.int v13)] (SH, s) r from ?_)
      refine Rn_sq srt182 11 1 (pc' := (if v13 = 0 then 26 else 28)) (ls' := [some (.ref 0), some (.int a1), some (.int a2)]) (st' := []) (h1 := (SH, s)) rfl (Rn_if (fun h14 => ?_) (fun h14 => ?_))
      · replace hJ := m_ifp h14 hJ
        exact Rn_weaken (a := [none, none, none]) (b := [some (.ref 0), some (.int a1), some (.int a2)]) trivial rfl (k_X11_stands_26 d hJ hC)
      · replace hJ := m_ifn h14 hJ
        exact (k_X11_stands_28 d hJ hC)
theorem k_X11_stands {N : Nat} {xs : Nat → Int32} (d : Nat) {s : mG} {a1 : Int32} {a2 : Int32} {τ : (Int32 × mG)} (hJ : F_X11_stands a1 a2 s = some τ) : Rn N xs (d + 5) me182 0 [some (.ref 0), some (.int a1), some (.int a2)] [] (SH, s) (some (.int τ.1), (SH, τ.2)) := k_X11_stands_r d hJ rfl
/-! IsHeIn.carries()I -/
theorem srt183 : m_srt mc183 = true := by decide +kernel
def F_X11_carries (s : mG) : Option (Int32 × mG) :=
  b2 (F_X1_likeliestToCarry s) fun v3 s2 =>
  some (v3, s2)
set_option maxRecDepth 4000 in
theorem k_X11_carries_r {N : Nat} {xs : Nat → Int32} (d : Nat) {r : Option Value × mH} {s : mG} {τ : (Int32 × mG)} (hJ : F_X11_carries s = some τ) (hC : (fun τ => r = (some (.int τ.1), (SH, τ.2))) τ) : Rn N xs (d + 4) me183 0 [some (.ref 0)] [] (SH, s) r := by
  unfold F_X11_carries at hJ
  refine Rn_sq srt183 0 2 (pc' := 4) (ls' := [some (.ref 0)]) (st' := [(.ref 77)]) (h1 := (SH, s)) rfl ?_
  obtain ⟨v3, s2, h1, hJ⟩ := m_b2 hJ
  refine Rn_call srt183 2 rfl rfl rfl ⟨Nat.le_of_ble_eq_true rfl, Nat.le_of_ble_eq_true rfl, rfl, Nat.le_of_ble_eq_true rfl⟩ (k_X1_likeliestToCarry (d) h1) (show Rn N xs (d + 4) me183 7 [some (.ref 0)] [(.int v3)] (SH, s2) r from ?_)
  rw [← Option.some.inj hJ] at hC
  have hC : r = (some (.int v3), (SH, s2)) := hC
  subst hC
  exact Rn_ret srt183 3 rfl rfl rfl
theorem k_X11_carries {N : Nat} {xs : Nat → Int32} (d : Nat) {s : mG} {τ : (Int32 × mG)} (hJ : F_X11_carries s = some τ) : Rn N xs (d + 4) me183 0 [some (.ref 0)] [] (SH, s) (some (.int τ.1), (SH, τ.2)) := k_X11_carries_r d hJ rfl
/-! IsHeIn.away(II)I -/
theorem srt184 : m_srt mc184 = true := by decide +kernel
def F_X11_away_32 (s : mG) : Option (Int32 × mG) :=
  some ((ci (-1)), s)
set_option maxRecDepth 4000 in
theorem k_X11_away_32 {N : Nat} {xs : Nat → Int32} (d : Nat) {r : Option Value × mH} {s : mG} {τ : (Int32 × mG)} (hJ : F_X11_away_32 s = some τ) (hC : (fun τ => r = (some (.int τ.1), (SH, τ.2))) τ) : Rn N xs (d + 4) me184 32 [none, none, none] [] (SH, s) r := by
  unfold F_X11_away_32 at hJ
  refine Rn_sq srt184 15 1 (pc' := 33) (ls' := [none, none, none]) (st' := [(.int (ci (-1)))]) (h1 := (SH, s)) rfl ?_
  rw [← Option.some.inj hJ] at hC
  have hC : r = (some (.int (ci (-1))), (SH, s)) := hC
  subst hC
  exact Rn_ret srt184 16 rfl rfl rfl
def F_X11_away (a1 : Int32) (a2 : Int32) (s : mG) : Option (Int32 × mG) :=
  b1 (F_X2_isGuest 1 s a1) fun v2 =>
  if v2 = 0 then
    F_X11_away_32 s
  else
    b1 (F_X11_isWithin s a2 (ci 0) (c8 48)) fun v5 =>
    if v5 = 0 then
      F_X11_away_32 s
    else
      b1 (F_X2_isOut 1 s a1) fun v8 =>
      if v8 = 0 then
        F_X11_away_32 s
      else
        b2 (F_X1_stillOut a1 a2 s) fun v12 s11 =>
        some (v12, s11)
set_option maxRecDepth 4000 in
theorem k_X11_away_r {N : Nat} {xs : Nat → Int32} (d : Nat) {r : Option Value × mH} {s : mG} {a1 : Int32} {a2 : Int32} {τ : (Int32 × mG)} (hJ : F_X11_away a1 a2 s = some τ) (hC : (fun τ => r = (some (.int τ.1), (SH, τ.2))) τ) : Rn N xs (d + 4) me184 0 [some (.ref 0), some (.int a1), some (.int a2)] [] (SH, s) r := by
  unfold F_X11_away at hJ
  refine Rn_sq srt184 0 3 (pc' := 5) (ls' := [some (.ref 0), some (.int a1), some (.int a2)]) (st' := [(.int a1), (.ref 1)]) (h1 := (SH, s)) rfl ?_
  obtain ⟨v2, h1, hJ⟩ := m_b1 hJ
  refine Rn_call srt184 3 rfl rfl rfl ⟨Nat.le_of_ble_eq_true rfl, Nat.le_of_ble_eq_true rfl, rfl, Nat.le_of_ble_eq_true rfl⟩ (k_X2_isGuest 1 (d + 2) isH_1 h1) (show Rn N xs (d + 4) me184 8 [some (.ref 0), some (.int a1), some (.int a2)] [(.int v2)] (SH, s) r from ?_)
  refine Rn_sq srt184 4 1 (pc' := (if v2 = 0 then 32 else 11)) (ls' := [some (.ref 0), some (.int a1), some (.int a2)]) (st' := []) (h1 := (SH, s)) rfl (Rn_if (fun h3 => ?_) (fun h3 => ?_))
  · replace hJ := m_ifp h3 hJ
    exact Rn_weaken (a := [none, none, none]) (b := [some (.ref 0), some (.int a1), some (.int a2)]) trivial rfl (k_X11_away_32 d hJ hC)
  · replace hJ := m_ifn h3 hJ
    refine Rn_sq srt184 5 3 (pc' := 15) (ls' := [some (.ref 0), some (.int a1), some (.int a2)]) (st' := [(.int (c8 48)), (.int (ci 0)), (.int a2)]) (h1 := (SH, s)) rfl ?_
    obtain ⟨v5, h4, hJ⟩ := m_b1 hJ
    refine Rn_call srt184 8 rfl rfl rfl ⟨Nat.le_of_ble_eq_true rfl, Nat.le_of_ble_eq_true rfl, rfl, Nat.le_of_ble_eq_true rfl⟩ (k_X11_isWithin (d + 3) h4) (show Rn N xs (d + 4) me184 18 [some (.ref 0), some (.int a1), some (.int a2)] [(.int v5)] (SH, s) r from ?_)
    refine Rn_sq srt184 9 1 (pc' := (if v5 = 0 then 32 else 21)) (ls' := [some (.ref 0), some (.int a1), some (.int a2)]) (st' := []) (h1 := (SH, s)) rfl (Rn_if (fun h6 => ?_) (fun h6 => ?_))
    · replace hJ := m_ifp h6 hJ
      exact Rn_weaken (a := [none, none, none]) (b := [some (.ref 0), some (.int a1), some (.int a2)]) trivial rfl (k_X11_away_32 d hJ hC)
    · replace hJ := m_ifn h6 hJ
      refine Rn_sq srt184 10 3 (pc' := 26) (ls' := [some (.ref 0), some (.int a1), some (.int a2)]) (st' := [(.int a1), (.ref 1)]) (h1 := (SH, s)) rfl ?_
      obtain ⟨v8, h7, hJ⟩ := m_b1 hJ
      refine Rn_call srt184 13 rfl rfl rfl ⟨Nat.le_of_ble_eq_true rfl, Nat.le_of_ble_eq_true rfl, rfl, Nat.le_of_ble_eq_true rfl⟩ (k_X2_isOut 1 (d + 2) isH_1 h7) (show Rn N xs (d + 4) me184 29 [some (.ref 0), some (.int a1), some (.int a2)] [(.int v8)] (SH, s) r from ?_)
      refine Rn_sq srt184 14 1 (pc' := (if v8 = 0 then 32 else 34)) (ls' := [some (.ref 0), some (.int a1), some (.int a2)]) (st' := []) (h1 := (SH, s)) rfl (Rn_if (fun h9 => ?_) (fun h9 => ?_))
      · replace hJ := m_ifp h9 hJ
        exact Rn_weaken (a := [none, none, none]) (b := [some (.ref 0), some (.int a1), some (.int a2)]) trivial rfl (k_X11_away_32 d hJ hC)
      · replace hJ := m_ifn h9 hJ
        refine Rn_sq srt184 17 4 (pc' := 40) (ls' := [some (.ref 0), some (.int a1), some (.int a2)]) (st' := [(.int a2), (.int a1), (.ref 77)]) (h1 := (SH, s)) rfl ?_
        obtain ⟨v12, s11, h10, hJ⟩ := m_b2 hJ
        refine Rn_call srt184 21 rfl rfl rfl ⟨Nat.le_of_ble_eq_true rfl, Nat.le_of_ble_eq_true rfl, rfl, Nat.le_of_ble_eq_true rfl⟩ (k_X1_stillOut (d) h10) (show Rn N xs (d + 4) me184 43 [some (.ref 0), some (.int a1), some (.int a2)] [(.int v12)] (SH, s11) r from ?_)
        rw [← Option.some.inj hJ] at hC
        have hC : r = (some (.int v12), (SH, s11)) := hC
        subst hC
        exact Rn_ret srt184 22 rfl rfl rfl
theorem k_X11_away {N : Nat} {xs : Nat → Int32} (d : Nat) {s : mG} {a1 : Int32} {a2 : Int32} {τ : (Int32 × mG)} (hJ : F_X11_away a1 a2 s = some τ) : Rn N xs (d + 4) me184 0 [some (.ref 0), some (.int a1), some (.int a2)] [] (SH, s) (some (.int τ.1), (SH, τ.2)) := k_X11_away_r d hJ rfl
/-! IsHeIn.knocks(I)I -/
theorem srt185 : m_srt mc185 = true := by decide +kernel
def F_X11_knocks (a1 : Int32) (s : mG) : Option (Int32 × mG) :=
  b2 (F_X9_roomAt a1 s) fun v3 s2 =>
  some (v3, s2)
set_option maxRecDepth 4000 in
theorem k_X11_knocks_r {N : Nat} {xs : Nat → Int32} (d : Nat) {r : Option Value × mH} {s : mG} {a1 : Int32} {τ : (Int32 × mG)} (hJ : F_X11_knocks a1 s = some τ) (hC : (fun τ => r = (some (.int τ.1), (SH, τ.2))) τ) : Rn N xs (d + 6) me185 0 [some (.ref 0), some (.int a1)] [] (SH, s) r := by
  unfold F_X11_knocks at hJ
  refine Rn_sq srt185 0 3 (pc' := 5) (ls' := [some (.ref 0), some (.int a1)]) (st' := [(.int a1), (.ref 83)]) (h1 := (SH, s)) rfl ?_
  obtain ⟨v3, s2, h1, hJ⟩ := m_b2 hJ
  refine Rn_call srt185 3 rfl rfl rfl ⟨Nat.le_of_ble_eq_true rfl, Nat.le_of_ble_eq_true rfl, rfl, Nat.le_of_ble_eq_true rfl⟩ (k_X9_roomAt (d) h1) (show Rn N xs (d + 6) me185 8 [some (.ref 0), some (.int a1)] [(.int v3)] (SH, s2) r from ?_)
  rw [← Option.some.inj hJ] at hC
  have hC : r = (some (.int v3), (SH, s2)) := hC
  subst hC
  exact Rn_ret srt185 4 rfl rfl rfl
theorem k_X11_knocks {N : Nat} {xs : Nat → Int32} (d : Nat) {s : mG} {a1 : Int32} {τ : (Int32 × mG)} (hJ : F_X11_knocks a1 s = some τ) : Rn N xs (d + 6) me185 0 [some (.ref 0), some (.int a1)] [] (SH, s) (some (.int τ.1), (SH, τ.2)) := k_X11_knocks_r d hJ rfl
/-! IsHeIn.done(I)I -/
theorem srt186 : m_srt mc186 = true := by decide +kernel
def F_X11_done (s : mG) (a1 : Int32) : Option (Int32) :=
  b1 (F_X11_isWithin s a1 (ci 0) (ci 1)) fun v2 =>
  if v2 = 0 then
    some (ci (-1))
  else
    b1 (F_X9_bestRooms s) fun v5 =>
    if a1 = 0 then
      b1 (F_X9_worthOf s v5) fun v8 =>
      some v8
    else
      some v5
set_option maxRecDepth 4000 in
theorem k_X11_done_r {N : Nat} {xs : Nat → Int32} (d : Nat) {r : Option Value × mH} {s : mG} {a1 : Int32} {τ : (Int32)} (hJ : F_X11_done s a1 = some τ) (hC : (fun τ => r = (some (.int τ), (SH, s))) τ) : Rn N xs (d + 4) me186 0 [some (.ref 0), some (.int a1), none] [] (SH, s) r := by
  unfold F_X11_done at hJ
  refine Rn_sq srt186 0 3 (pc' := 3) (ls' := [some (.ref 0), some (.int a1), none]) (st' := [(.int (ci 1)), (.int (ci 0)), (.int a1)]) (h1 := (SH, s)) rfl ?_
  obtain ⟨v2, h1, hJ⟩ := m_b1 hJ
  refine Rn_call srt186 3 rfl rfl rfl ⟨Nat.le_of_ble_eq_true rfl, Nat.le_of_ble_eq_true rfl, rfl, Nat.le_of_ble_eq_true rfl⟩ (k_X11_isWithin (d + 3) h1) (show Rn N xs (d + 4) me186 6 [some (.ref 0), some (.int a1), none] [(.int v2)] (SH, s) r from ?_)
  refine Rn_sq srt186 4 1 (pc' := (if v2 = 0 then 9 else 11)) (ls' := [some (.ref 0), some (.int a1), none]) (st' := []) (h1 := (SH, s)) rfl (Rn_if (fun h3 => ?_) (fun h3 => ?_))
  · replace hJ := m_ifp h3 hJ
    refine Rn_sq srt186 5 1 (pc' := 10) (ls' := [some (.ref 0), some (.int a1), none]) (st' := [(.int (ci (-1)))]) (h1 := (SH, s)) rfl ?_
    rw [← Option.some.inj hJ] at hC
    have hC : r = (some (.int (ci (-1))), (SH, s)) := hC
    subst hC
    exact Rn_ret srt186 6 rfl rfl rfl
  · replace hJ := m_ifn h3 hJ
    refine Rn_sq srt186 7 2 (pc' := 15) (ls' := [some (.ref 0), some (.int a1), none]) (st' := [(.ref 83)]) (h1 := (SH, s)) rfl ?_
    obtain ⟨v5, h4, hJ⟩ := m_b1 hJ
    refine Rn_call srt186 9 rfl rfl rfl ⟨Nat.le_of_ble_eq_true rfl, Nat.le_of_ble_eq_true rfl, rfl, Nat.le_of_ble_eq_true rfl⟩ (k_X9_bestRooms (d) h4) (show Rn N xs (d + 4) me186 18 [some (.ref 0), some (.int a1), none] [(.int v5)] (SH, s) r from ?_)
    refine Rn_sq srt186 10 3 (pc' := (if a1 = 0 then 23 else 34)) (ls' := [some (.ref 0), some (.int a1), some (.int v5)]) (st' := []) (h1 := (SH, s)) rfl (Rn_if (fun h6 => ?_) (fun h6 => ?_))
    · replace hJ := m_ifp h6 hJ
      refine Rn_sq srt186 13 3 (pc' := 28) (ls' := [some (.ref 0), some (.int a1), some (.int v5)]) (st' := [(.int v5), (.ref 83)]) (h1 := (SH, s)) rfl ?_
      obtain ⟨v8, h7, hJ⟩ := m_b1 hJ
      refine Rn_call srt186 16 rfl rfl rfl ⟨Nat.le_of_ble_eq_true rfl, Nat.le_of_ble_eq_true rfl, rfl, Nat.le_of_ble_eq_true rfl⟩ (k_X9_worthOf (d + 2) h7) (show Rn N xs (d + 4) me186 31 [some (.ref 0), some (.int a1), some (.int v5)] [(.int v8)] (SH, s) r from ?_)
      refine Rn_sq srt186 17 1 (pc' := 35) (ls' := [some (.ref 0), some (.int a1), some (.int v5)]) (st' := [(.int v8)]) (h1 := (SH, s)) rfl ?_
      rw [← Option.some.inj hJ] at hC
      have hC : r = (some (.int v8), (SH, s)) := hC
      subst hC
      exact Rn_ret srt186 19 rfl rfl rfl
    · replace hJ := m_ifn h6 hJ
      refine Rn_sq srt186 18 1 (pc' := 35) (ls' := [some (.ref 0), some (.int a1), some (.int v5)]) (st' := [(.int v5)]) (h1 := (SH, s)) rfl ?_
      rw [← Option.some.inj hJ] at hC
      have hC : r = (some (.int v5), (SH, s)) := hC
      subst hC
      exact Rn_ret srt186 19 rfl rfl rfl
theorem k_X11_done {N : Nat} {xs : Nat → Int32} (d : Nat) {s : mG} {a1 : Int32} {τ : (Int32)} (hJ : F_X11_done s a1 = some τ) : Rn N xs (d + 4) me186 0 [some (.ref 0), some (.int a1), none] [] (SH, s) (some (.int τ), (SH, s)) := k_X11_done_r d hJ rfl
/-! IsHeIn.fire(II)I -/
theorem srt187 : m_srt mc187 = true := by decide +kernel
def F_X11_fire_87 (s : mG) : Option (Int32 × mG) :=
  some ((ci (-1)), s)
set_option maxRecDepth 4000 in
theorem k_X11_fire_87 {N : Nat} {xs : Nat → Int32} (d : Nat) {r : Option Value × mH} {s : mG} {τ : (Int32 × mG)} (hJ : F_X11_fire_87 s = some τ) (hC : (fun τ => r = (some (.int τ.1), (SH, τ.2))) τ) : Rn N xs (d + 8) me187 87 [none, none, none] [] (SH, s) r := by
  unfold F_X11_fire_87 at hJ
  refine Rn_sq srt187 45 1 (pc' := 88) (ls' := [none, none, none]) (st' := [(.int (ci (-1)))]) (h1 := (SH, s)) rfl ?_
  rw [← Option.some.inj hJ] at hC
  have hC : r = (some (.int (ci (-1))), (SH, s)) := hC
  subst hC
  exact Rn_ret srt187 46 rfl rfl rfl
def F_X11_fire (a1 : Int32) (a2 : Int32) (s : mG) : Option (Int32 × mG) :=
  b1 (F_X11_isWithin s a1 (ci 1) (c8 99)) fun v2 =>
  if v2 = 0 then
    some ((ci (-1)), s)
  else
    b1 (F_X9_searchFloors a1 s) fun s5 =>
    if a2 = 0 then
      let v7 : Int32 := ((s5.2 83 7) / (cl 1000000)).toInt32
      some (v7, s5)
    else
      if a2 = (ci 1) then
        some ((s5.1 83 6), s5)
      else
        if a2 < (c8 10) then
          F_X11_fire_87 s5
        else
          if (s5.1 83 6) ≤ (a2 - (c8 10)) then
            F_X11_fire_87 s5
          else
            b1 (F_X11_cell 87 s5 (a2 - (c8 10))) fun v12 =>
            some (v12, s5)
set_option maxRecDepth 4000 in
theorem k_X11_fire_r {N : Nat} {xs : Nat → Int32} (d : Nat) {r : Option Value × mH} {s : mG} {a1 : Int32} {a2 : Int32} {τ : (Int32 × mG)} (hJ : F_X11_fire a1 a2 s = some τ) (hC : (fun τ => r = (some (.int τ.1), (SH, τ.2))) τ) : Rn N xs (d + 8) me187 0 [some (.ref 0), some (.int a1), some (.int a2)] [] (SH, s) r := by
  unfold F_X11_fire at hJ
  refine Rn_sq srt187 0 3 (pc' := 4) (ls' := [some (.ref 0), some (.int a1), some (.int a2)]) (st' := [(.int (c8 99)), (.int (ci 1)), (.int a1)]) (h1 := (SH, s)) rfl ?_
  obtain ⟨v2, h1, hJ⟩ := m_b1 hJ
  refine Rn_call srt187 3 rfl rfl rfl ⟨Nat.le_of_ble_eq_true rfl, Nat.le_of_ble_eq_true rfl, rfl, Nat.le_of_ble_eq_true rfl⟩ (k_X11_isWithin (d + 7) h1) (show Rn N xs (d + 8) me187 7 [some (.ref 0), some (.int a1), some (.int a2)] [(.int v2)] (SH, s) r from ?_)
  refine Rn_sq srt187 4 1 (pc' := (if v2 = 0 then 10 else 12)) (ls' := [some (.ref 0), some (.int a1), some (.int a2)]) (st' := []) (h1 := (SH, s)) rfl (Rn_if (fun h3 => ?_) (fun h3 => ?_))
  · replace hJ := m_ifp h3 hJ
    refine Rn_sq srt187 5 1 (pc' := 11) (ls' := [some (.ref 0), some (.int a1), some (.int a2)]) (st' := [(.int (ci (-1)))]) (h1 := (SH, s)) rfl ?_
    rw [← Option.some.inj hJ] at hC
    have hC : r = (some (.int (ci (-1))), (SH, s)) := hC
    subst hC
    exact Rn_ret srt187 6 rfl rfl rfl
  · replace hJ := m_ifn h3 hJ
    refine Rn_sq srt187 7 3 (pc' := 17) (ls' := [some (.ref 0), some (.int a1), some (.int a2)]) (st' := [(.int a1), (.ref 83)]) (h1 := (SH, s)) rfl ?_
    obtain ⟨s5, h4, hJ⟩ := m_b1 hJ
    refine Rn_call srt187 10 rfl rfl rfl ⟨Nat.le_of_ble_eq_true rfl, Nat.le_of_ble_eq_true rfl, rfl, Nat.le_of_ble_eq_true rfl⟩ (k_X9_searchFloors (d) h4) (show Rn N xs (d + 8) me187 20 [some (.ref 0), some (.int a1), some (.int a2)] [] (SH, s5) r from ?_)
    refine Rn_sq srt187 11 2 (pc' := (if a2 = 0 then 24 else 37)) (ls' := [some (.ref 0), some (.int a1), some (.int a2)]) (st' := []) (h1 := (SH, s5)) rfl (Rn_if (fun h6 => ?_) (fun h6 => ?_))
    · replace hJ := m_ifp h6 hJ
      refine Rn_sq srt187 13 4 (pc' := 34) (ls' := [some (.ref 0), some (.int a1), some (.int a2)]) (st' := [(.long (cl 1000000)), (.long (s5.2 83 7))]) (h1 := (SH, s5)) rfl ?_
      refine Rn_ev srt187 17 rfl rfl rfl (op_ldiv (by decide)) ?_
      refine Rn_sq srt187 18 1 (pc' := 36) (ls' := [some (.ref 0), some (.int a1), some (.int a2)]) (st' := [(.int ((s5.2 83 7) / (cl 1000000)).toInt32)]) (h1 := (SH, s5)) rfl ?_
      extract_lets +onlyGivenNames v7 at hJ
      rw [← Option.some.inj hJ] at hC
      have hC : r = (some (.int ((s5.2 83 7) / (cl 1000000)).toInt32), (SH, s5)) := hC
      subst hC
      exact Rn_ret srt187 19 rfl rfl rfl
    · replace hJ := m_ifn h6 hJ
      refine Rn_sq srt187 20 3 (pc' := (if a2 = (ci 1) then 42 else 50)) (ls' := [some (.ref 0), some (.int a1), some (.int a2)]) (st' := []) (h1 := (SH, s5)) rfl (Rn_if (fun h8 => ?_) (fun h8 => ?_))
      · replace hJ := m_ifp h8 hJ
        refine Rn_sq srt187 23 3 (pc' := 49) (ls' := [some (.ref 0), some (.int a1), some (.int a2)]) (st' := [(.int (s5.1 83 6))]) (h1 := (SH, s5)) rfl ?_
        rw [← Option.some.inj hJ] at hC
        have hC : r = (some (.int (s5.1 83 6)), (SH, s5)) := hC
        subst hC
        exact Rn_ret srt187 26 rfl rfl rfl
      · replace hJ := m_ifn h8 hJ
        refine Rn_sq srt187 27 3 (pc' := (if a2 < (c8 10) then 87 else 56)) (ls' := [some (.ref 0), some (.int a1), some (.int a2)]) (st' := []) (h1 := (SH, s5)) rfl (Rn_if (fun h9 => ?_) (fun h9 => ?_))
        · replace hJ := m_ifp h9 hJ
          exact Rn_weaken (a := [none, none, none]) (b := [some (.ref 0), some (.int a1), some (.int a2)]) trivial rfl (k_X11_fire_87 d hJ hC)
        · replace hJ := m_ifn h9 hJ
          refine Rn_sq srt187 30 7 (pc' := (if (s5.1 83 6) ≤ (a2 - (c8 10)) then 87 else 70)) (ls' := [some (.ref 0), some (.int a1), some (.int a2)]) (st' := []) (h1 := (SH, s5)) rfl (Rn_if (fun h10 => ?_) (fun h10 => ?_))
          · replace hJ := m_ifp h10 hJ
            exact Rn_weaken (a := [none, none, none]) (b := [some (.ref 0), some (.int a1), some (.int a2)]) trivial rfl (k_X11_fire_87 d hJ hC)
          · replace hJ := m_ifn h10 hJ
            refine Rn_sq srt187 37 6 (pc' := 81) (ls' := [some (.ref 0), some (.int a1), some (.int a2)]) (st' := [(.int (a2 - (c8 10))), (.ref 87)]) (h1 := (SH, s5)) rfl ?_
            obtain ⟨v12, h11, hJ⟩ := m_b1 hJ
            refine Rn_call srt187 43 rfl rfl rfl ⟨Nat.le_of_ble_eq_true rfl, Nat.le_of_ble_eq_true rfl, rfl, Nat.le_of_ble_eq_true rfl⟩ (k_X11_cell 87 (d + 7) h11) (show Rn N xs (d + 8) me187 84 [some (.ref 0), some (.int a1), some (.int a2)] [(.int v12)] (SH, s5) r from ?_)
            refine Rn_sq srt187 44 1 (pc' := 88) (ls' := [some (.ref 0), some (.int a1), some (.int a2)]) (st' := [(.int v12)]) (h1 := (SH, s5)) rfl ?_
            rw [← Option.some.inj hJ] at hC
            have hC : r = (some (.int v12), (SH, s5)) := hC
            subst hC
            exact Rn_ret srt187 46 rfl rfl rfl
theorem k_X11_fire {N : Nat} {xs : Nat → Int32} (d : Nat) {s : mG} {a1 : Int32} {a2 : Int32} {τ : (Int32 × mG)} (hJ : F_X11_fire a1 a2 s = some τ) : Rn N xs (d + 8) me187 0 [some (.ref 0), some (.int a1), some (.int a2)] [] (SH, s) (some (.int τ.1), (SH, τ.2)) := k_X11_fire_r d hJ rfl
/-! IsHeInModel.isIn(III)Z -/
theorem srt193 : m_srt mc193 = true := by decide +kernel
def F_X12_isIn_14 (s : mG) : Option (Int32) :=
  some (ci 0)
set_option maxRecDepth 4000 in
theorem k_X12_isIn_14 {N : Nat} {xs : Nat → Int32} (d : Nat) {r : Option Value × mH} {s : mG} {τ : (Int32)} (hJ : F_X12_isIn_14 s = some τ) (hC : (fun τ => r = (some (.int τ), (SH, s))) τ) : Rn N xs (d + 0) me193 14 [none, none, none] [] (SH, s) r := by
  unfold F_X12_isIn_14 at hJ
  refine Rn_sq srt193 8 1 (pc' := 15) (ls' := [none, none, none]) (st' := [(.int (ci 0))]) (h1 := (SH, s)) rfl ?_
  rw [← Option.some.inj hJ] at hC
  have hC : r = (some (.int (ci 0)), (SH, s)) := hC
  subst hC
  exact Rn_ret srt193 9 rfl rfl (m_ret_b rfl (by decide))
def F_X12_isIn (s : mG) (a1 : Int32) (a2 : Int32) (a3 : Int32) : Option (Int32) :=
  if a1 < a2 then
    F_X12_isIn_14 s
  else
    if a3 < a1 then
      F_X12_isIn_14 s
    else
      some (ci 1)
set_option maxRecDepth 4000 in
theorem k_X12_isIn_r {N : Nat} {xs : Nat → Int32} (d : Nat) {r : Option Value × mH} {s : mG} {a1 : Int32} {a2 : Int32} {a3 : Int32} {τ : (Int32)} (hJ : F_X12_isIn s a1 a2 a3 = some τ) (hC : (fun τ => r = (some (.int τ), (SH, s))) τ) : Rn N xs (d + 0) me193 0 [some (.int a1), some (.int a2), some (.int a3)] [] (SH, s) r := by
  unfold F_X12_isIn at hJ
  refine Rn_sq srt193 0 3 (pc' := (if a1 < a2 then 14 else 5)) (ls' := [some (.int a1), some (.int a2), some (.int a3)]) (st' := []) (h1 := (SH, s)) rfl (Rn_if (fun h1 => ?_) (fun h1 => ?_))
  · replace hJ := m_ifp h1 hJ
    exact Rn_weaken (a := [none, none, none]) (b := [some (.int a1), some (.int a2), some (.int a3)]) trivial rfl (k_X12_isIn_14 d hJ hC)
  · replace hJ := m_ifn h1 hJ
    refine Rn_sq srt193 3 3 (pc' := (if a3 < a1 then 14 else 10)) (ls' := [some (.int a1), some (.int a2), some (.int a3)]) (st' := []) (h1 := (SH, s)) rfl (Rn_if (fun h2 => ?_) (fun h2 => ?_))
    · replace hJ := m_ifp h2 hJ
      exact Rn_weaken (a := [none, none, none]) (b := [some (.int a1), some (.int a2), some (.int a3)]) trivial rfl (k_X12_isIn_14 d hJ hC)
    · replace hJ := m_ifn h2 hJ
      refine Rn_sq srt193 6 2 (pc' := 15) (ls' := [some (.int a1), some (.int a2), some (.int a3)]) (st' := [(.int (ci 1))]) (h1 := (SH, s)) rfl ?_
      rw [← Option.some.inj hJ] at hC
      have hC : r = (some (.int (ci 1)), (SH, s)) := hC
      subst hC
      exact Rn_ret srt193 9 rfl rfl (m_ret_b rfl (by decide))
theorem k_X12_isIn {N : Nat} {xs : Nat → Int32} (d : Nat) {s : mG} {a1 : Int32} {a2 : Int32} {a3 : Int32} {τ : (Int32)} (hJ : F_X12_isIn s a1 a2 a3 = some τ) : Rn N xs (d + 0) me193 0 [some (.int a1), some (.int a2), some (.int a3)] [] (SH, s) (some (.int τ), (SH, s)) := k_X12_isIn_r d hJ rfl
/-! IsHeInModel.lesser(II)I -/
theorem srt194 : m_srt mc194 = true := by decide +kernel
def F_X12_lesser (s : mG) (a1 : Int32) (a2 : Int32) : Option (Int32) :=
  if a2 ≤ a1 then
    some a2
  else
    some a1
set_option maxRecDepth 4000 in
theorem k_X12_lesser_r {N : Nat} {xs : Nat → Int32} (d : Nat) {r : Option Value × mH} {s : mG} {a1 : Int32} {a2 : Int32} {τ : (Int32)} (hJ : F_X12_lesser s a1 a2 = some τ) (hC : (fun τ => r = (some (.int τ), (SH, s))) τ) : Rn N xs (d + 0) me194 0 [some (.int a1), some (.int a2)] [] (SH, s) r := by
  unfold F_X12_lesser at hJ
  refine Rn_sq srt194 0 3 (pc' := (if a2 ≤ a1 then 9 else 5)) (ls' := [some (.int a1), some (.int a2)]) (st' := []) (h1 := (SH, s)) rfl (Rn_if (fun h1 => ?_) (fun h1 => ?_))
  · replace hJ := m_ifp h1 hJ
    refine Rn_sq srt194 5 1 (pc' := 10) (ls' := [some (.int a1), some (.int a2)]) (st' := [(.int a2)]) (h1 := (SH, s)) rfl ?_
    rw [← Option.some.inj hJ] at hC
    have hC : r = (some (.int a2), (SH, s)) := hC
    subst hC
    exact Rn_ret srt194 6 rfl rfl rfl
  · replace hJ := m_ifn h1 hJ
    refine Rn_sq srt194 3 2 (pc' := 10) (ls' := [some (.int a1), some (.int a2)]) (st' := [(.int a1)]) (h1 := (SH, s)) rfl ?_
    rw [← Option.some.inj hJ] at hC
    have hC : r = (some (.int a1), (SH, s)) := hC
    subst hC
    exact Rn_ret srt194 6 rfl rfl rfl
theorem k_X12_lesser {N : Nat} {xs : Nat → Int32} (d : Nat) {s : mG} {a1 : Int32} {a2 : Int32} {τ : (Int32)} (hJ : F_X12_lesser s a1 a2 = some τ) : Rn N xs (d + 0) me194 0 [some (.int a1), some (.int a2)] [] (SH, s) (some (.int τ), (SH, s)) := k_X12_lesser_r d hJ rfl
/-! IsHeInModel.greater(II)I -/
theorem srt195 : m_srt mc195 = true := by decide +kernel
def F_X12_greater (s : mG) (a1 : Int32) (a2 : Int32) : Option (Int32) :=
  if a1 ≤ a2 then
    some a2
  else
    some a1
set_option maxRecDepth 4000 in
theorem k_X12_greater_r {N : Nat} {xs : Nat → Int32} (d : Nat) {r : Option Value × mH} {s : mG} {a1 : Int32} {a2 : Int32} {τ : (Int32)} (hJ : F_X12_greater s a1 a2 = some τ) (hC : (fun τ => r = (some (.int τ), (SH, s))) τ) : Rn N xs (d + 0) me195 0 [some (.int a1), some (.int a2)] [] (SH, s) r := by
  unfold F_X12_greater at hJ
  refine Rn_sq srt195 0 3 (pc' := (if a1 ≤ a2 then 9 else 5)) (ls' := [some (.int a1), some (.int a2)]) (st' := []) (h1 := (SH, s)) rfl (Rn_if (fun h1 => ?_) (fun h1 => ?_))
  · replace hJ := m_ifp h1 hJ
    refine Rn_sq srt195 5 1 (pc' := 10) (ls' := [some (.int a1), some (.int a2)]) (st' := [(.int a2)]) (h1 := (SH, s)) rfl ?_
    rw [← Option.some.inj hJ] at hC
    have hC : r = (some (.int a2), (SH, s)) := hC
    subst hC
    exact Rn_ret srt195 6 rfl rfl rfl
  · replace hJ := m_ifn h1 hJ
    refine Rn_sq srt195 3 2 (pc' := 10) (ls' := [some (.int a1), some (.int a2)]) (st' := [(.int a1)]) (h1 := (SH, s)) rfl ?_
    rw [← Option.some.inj hJ] at hC
    have hC : r = (some (.int a1), (SH, s)) := hC
    subst hC
    exact Rn_ret srt195 6 rfl rfl rfl
theorem k_X12_greater {N : Nat} {xs : Nat → Int32} (d : Nat) {s : mG} {a1 : Int32} {a2 : Int32} {τ : (Int32)} (hJ : F_X12_greater s a1 a2 = some τ) : Rn N xs (d + 0) me195 0 [some (.int a1), some (.int a2)] [] (SH, s) (some (.int τ), (SH, s)) := k_X12_greater_r d hJ rfl
/-! IsHeInModel.isGuest(I)Z -/
theorem srt196 : m_srt mc196 = true := by decide +kernel
def F_X12_isGuest (s : mG) (a1 : Int32) : Option (Int32) :=
  b1 (F_X12_isIn s a1 (ci 0) ((s.1 89 112) - (ci 1))) fun v2 =>
  if v2 = 0 ∨ v2 = 1 then
    some v2
  else none
set_option maxRecDepth 4000 in
theorem k_X12_isGuest_r {N : Nat} {xs : Nat → Int32} (d : Nat) {r : Option Value × mH} {s : mG} {a1 : Int32} {τ : (Int32)} (hJ : F_X12_isGuest s a1 = some τ) (hC : (fun τ => r = (some (.int τ), (SH, s))) τ) : Rn N xs (d + 1) me196 0 [some (.ref 88), some (.int a1)] [] (SH, s) r := by
  unfold F_X12_isGuest at hJ
  refine Rn_sq srt196 0 5 (pc' := 8) (ls' := [some (.ref 88), some (.int a1)]) (st' := [(.int (c8 112)), (.ref 89), (.int (ci 0)), (.int a1)]) (h1 := (SH, s)) rfl ?_
  refine Rn_ev srt196 5 rfl rfl rfl (op_ia sh89 (by decide) (k := 112) rfl) ?_
  refine Rn_sq srt196 6 2 (pc' := 11) (ls' := [some (.ref 88), some (.int a1)]) (st' := [(.int ((s.1 89 112) - (ci 1))), (.int (ci 0)), (.int a1)]) (h1 := (SH, s)) rfl ?_
  obtain ⟨v2, h1, hJ⟩ := m_b1 hJ
  refine Rn_call srt196 8 rfl rfl rfl ⟨Nat.le_of_ble_eq_true rfl, Nat.le_of_ble_eq_true rfl, rfl, Nat.le_of_ble_eq_true rfl⟩ (k_X12_isIn (d) h1) (show Rn N xs (d + 1) me196 14 [some (.ref 88), some (.int a1)] [(.int v2)] (SH, s) r from ?_)
  obtain ⟨h3, hJ⟩ := m_gp hJ
  rw [← Option.some.inj hJ] at hC
  have hC : r = (some (.int v2), (SH, s)) := hC
  subst hC
  exact Rn_ret srt196 9 rfl rfl (m_ret_b rfl h3)
theorem k_X12_isGuest {N : Nat} {xs : Nat → Int32} (d : Nat) {s : mG} {a1 : Int32} {τ : (Int32)} (hJ : F_X12_isGuest s a1 = some τ) : Rn N xs (d + 1) me196 0 [some (.ref 88), some (.int a1)] [] (SH, s) (some (.int τ), (SH, s)) := k_X12_isGuest_r d hJ rfl
/-! IsHeInModel.isSign(I)Z -/
theorem srt197 : m_srt mc197 = true := by decide +kernel
def F_X12_isSign (s : mG) (a1 : Int32) : Option (Int32) :=
  b1 (F_X12_isIn s a1 (ci 0) ((s.1 89 115) - (ci 1))) fun v2 =>
  if v2 = 0 ∨ v2 = 1 then
    some v2
  else none
set_option maxRecDepth 4000 in
theorem k_X12_isSign_r {N : Nat} {xs : Nat → Int32} (d : Nat) {r : Option Value × mH} {s : mG} {a1 : Int32} {τ : (Int32)} (hJ : F_X12_isSign s a1 = some τ) (hC : (fun τ => r = (some (.int τ), (SH, s))) τ) : Rn N xs (d + 1) me197 0 [some (.ref 88), some (.int a1)] [] (SH, s) r := by
  unfold F_X12_isSign at hJ
  refine Rn_sq srt197 0 5 (pc' := 8) (ls' := [some (.ref 88), some (.int a1)]) (st' := [(.int (c8 115)), (.ref 89), (.int (ci 0)), (.int a1)]) (h1 := (SH, s)) rfl ?_
  refine Rn_ev srt197 5 rfl rfl rfl (op_ia sh89 (by decide) (k := 115) rfl) ?_
  refine Rn_sq srt197 6 2 (pc' := 11) (ls' := [some (.ref 88), some (.int a1)]) (st' := [(.int ((s.1 89 115) - (ci 1))), (.int (ci 0)), (.int a1)]) (h1 := (SH, s)) rfl ?_
  obtain ⟨v2, h1, hJ⟩ := m_b1 hJ
  refine Rn_call srt197 8 rfl rfl rfl ⟨Nat.le_of_ble_eq_true rfl, Nat.le_of_ble_eq_true rfl, rfl, Nat.le_of_ble_eq_true rfl⟩ (k_X12_isIn (d) h1) (show Rn N xs (d + 1) me197 14 [some (.ref 88), some (.int a1)] [(.int v2)] (SH, s) r from ?_)
  obtain ⟨h3, hJ⟩ := m_gp hJ
  rw [← Option.some.inj hJ] at hC
  have hC : r = (some (.int v2), (SH, s)) := hC
  subst hC
  exact Rn_ret srt197 9 rfl rfl (m_ret_b rfl h3)
theorem k_X12_isSign {N : Nat} {xs : Nat → Int32} (d : Nat) {s : mG} {a1 : Int32} {τ : (Int32)} (hJ : F_X12_isSign s a1 = some τ) : Rn N xs (d + 1) me197 0 [some (.ref 88), some (.int a1)] [] (SH, s) (some (.int τ), (SH, s)) := k_X12_isSign_r d hJ rfl
/-! IsHeInModel.forgets()V -/
theorem srt198 : m_srt mc198 = true := by decide +kernel
def F_X12_forgets (s : mG) : Option (mG) :=
  let s1 : mG := (mu s.1 88 3 (ci 0), s.2)
  some s1
set_option maxRecDepth 4000 in
theorem k_X12_forgets_r {N : Nat} {xs : Nat → Int32} (d : Nat) {r : Option Value × mH} {s : mG} {τ : (mG)} (hJ : F_X12_forgets s = some τ) (hC : (fun τ => r = (none, (SH, τ))) τ) : Rn N xs (d + 0) me198 0 [some (.ref 88)] [] (SH, s) r := by
  unfold F_X12_forgets at hJ
  extract_lets +onlyGivenNames s1 at hJ
  refine Rn_sq srt198 0 3 (pc' := 5) (ls' := [some (.ref 88)]) (st' := []) (h1 := (SH, s1)) rfl ?_
  rw [← Option.some.inj hJ] at hC
  have hC : r = (none, (SH, s1)) := hC
  subst hC
  exact Rn_ret srt198 3 rfl rfl rfl
theorem k_X12_forgets {N : Nat} {xs : Nat → Int32} (d : Nat) {s : mG} {τ : (mG)} (hJ : F_X12_forgets s = some τ) : Rn N xs (d + 0) me198 0 [some (.ref 88)] [] (SH, s) (none, (SH, τ)) := k_X12_forgets_r d hJ rfl
/-! IsHeInModel.state(I)I -/
theorem srt199 : m_srt mc199 = true := by decide +kernel
def F_X12_state (a1 : Int32) (s : mG) : Option (Int32 × mG) :=
  let s1 : mG := (mu s.1 89 1 a1, s.2)
  b1 (F_X12_forgets s1) fun s3 =>
  some ((s.1 89 1), s3)
set_option maxRecDepth 4000 in
theorem k_X12_state_r {N : Nat} {xs : Nat → Int32} (d : Nat) {r : Option Value × mH} {s : mG} {a1 : Int32} {τ : (Int32 × mG)} (hJ : F_X12_state a1 s = some τ) (hC : (fun τ => r = (some (.int τ.1), (SH, τ.2))) τ) : Rn N xs (d + 1) me199 0 [some (.ref 88), some (.int a1), none] [] (SH, s) r := by
  unfold F_X12_state at hJ
  refine Rn_sq srt199 0 3 (pc' := 5) (ls' := [some (.ref 88), some (.int a1), none]) (st' := [(.int (ci 1)), (.ref 89)]) (h1 := (SH, s)) rfl ?_
  refine Rn_ev srt199 3 rfl rfl rfl (op_ia sh89 (by decide) (k := 1) rfl) ?_
  refine Rn_sq srt199 4 5 (pc' := 13) (ls' := [some (.ref 88), some (.int a1), some (.int (s.1 89 1))]) (st' := [(.int a1), (.int (ci 1)), (.ref 89)]) (h1 := (SH, s)) rfl ?_
  extract_lets +onlyGivenNames s1 at hJ
  refine Rn_ev srt199 9 rfl rfl rfl (op_ias sh89 (by decide) (k := 1) rfl) ?_
  refine Rn_sq srt199 10 1 (pc' := 15) (ls' := [some (.ref 88), some (.int a1), some (.int (s.1 89 1))]) (st' := [(.ref 88)]) (h1 := (SH, s1)) rfl ?_
  obtain ⟨s3, h2, hJ⟩ := m_b1 hJ
  refine Rn_call srt199 11 rfl rfl rfl ⟨Nat.le_of_ble_eq_true rfl, Nat.le_of_ble_eq_true rfl, rfl, Nat.le_of_ble_eq_true rfl⟩ (k_X12_forgets (d) h2) (show Rn N xs (d + 1) me199 18 [some (.ref 88), some (.int a1), some (.int (s.1 89 1))] [] (SH, s3) r from ?_)
  refine Rn_sq srt199 12 1 (pc' := 19) (ls' := [some (.ref 88), some (.int a1), some (.int (s.1 89 1))]) (st' := [(.int (s.1 89 1))]) (h1 := (SH, s3)) rfl ?_
  rw [← Option.some.inj hJ] at hC
  have hC : r = (some (.int (s.1 89 1)), (SH, s3)) := hC
  subst hC
  exact Rn_ret srt199 13 rfl rfl rfl
theorem k_X12_state {N : Nat} {xs : Nat → Int32} (d : Nat) {s : mG} {a1 : Int32} {τ : (Int32 × mG)} (hJ : F_X12_state a1 s = some τ) : Rn N xs (d + 1) me199 0 [some (.ref 88), some (.int a1), none] [] (SH, s) (some (.int τ.1), (SH, τ.2)) := k_X12_state_r d hJ rfl
/-! IsHeInModel.draw(I)I -/
theorem srt200 : m_srt mc200 = true := by decide +kernel
def F_X12_draw (a1 : Int32) (s : mG) : Option (Int32 × mG) :=
  let s1 : mG := (mu s.1 89 1 (((ci 1664525) * (s.1 89 1)) + (ci 1013904223)), s.2)
  if a1 = 0 then none else
  let v3 : Int32 := (rm (ushr (s1.1 89 1) (c8 8)) a1)
  some (v3, s1)
set_option maxRecDepth 4000 in
theorem k_X12_draw_r {N : Nat} {xs : Nat → Int32} (d : Nat) {r : Option Value × mH} {s : mG} {a1 : Int32} {τ : (Int32 × mG)} (hJ : F_X12_draw a1 s = some τ) (hC : (fun τ => r = (some (.int τ.1), (SH, τ.2))) τ) : Rn N xs (d + 0) me200 0 [some (.ref 88), some (.int a1)] [] (SH, s) r := by
  unfold F_X12_draw at hJ
  refine Rn_sq srt200 0 7 (pc' := 12) (ls' := [some (.ref 88), some (.int a1)]) (st' := [(.int (ci 1)), (.ref 89), (.int (ci 1664525)), (.int (ci 1)), (.ref 89)]) (h1 := (SH, s)) rfl ?_
  refine Rn_ev srt200 7 rfl rfl rfl (op_ia sh89 (by decide) (k := 1) rfl) ?_
  refine Rn_sq srt200 8 3 (pc' := 17) (ls' := [some (.ref 88), some (.int a1)]) (st' := [(.int (((ci 1664525) * (s.1 89 1)) + (ci 1013904223))), (.int (ci 1)), (.ref 89)]) (h1 := (SH, s)) rfl ?_
  extract_lets +onlyGivenNames s1 at hJ
  refine Rn_ev srt200 11 rfl rfl rfl (op_ias sh89 (by decide) (k := 1) rfl) ?_
  refine Rn_sq srt200 12 3 (pc' := 23) (ls' := [some (.ref 88), some (.int a1)]) (st' := [(.int (ci 1)), (.ref 89)]) (h1 := (SH, s1)) rfl ?_
  refine Rn_ev srt200 15 rfl rfl rfl (op_ia sh89 (by decide) (k := 1) rfl) ?_
  refine Rn_sq srt200 16 3 (pc' := 28) (ls' := [some (.ref 88), some (.int a1)]) (st' := [(.int a1), (.int (ushr (s1.1 89 1) (c8 8)))]) (h1 := (SH, s1)) rfl ?_
  obtain ⟨h2, hJ⟩ := m_gn hJ
  refine Rn_ev srt200 19 rfl rfl rfl (op_irem h2) ?_
  extract_lets +onlyGivenNames v3 at hJ
  rw [← Option.some.inj hJ] at hC
  have hC : r = (some (.int (rm (ushr (s1.1 89 1) (c8 8)) a1)), (SH, s1)) := hC
  subst hC
  exact Rn_ret srt200 20 rfl rfl rfl
theorem k_X12_draw {N : Nat} {xs : Nat → Int32} (d : Nat) {s : mG} {a1 : Int32} {τ : (Int32 × mG)} (hJ : F_X12_draw a1 s = some τ) : Rn N xs (d + 0) me200 0 [some (.ref 88), some (.int a1)] [] (SH, s) (some (.int τ.1), (SH, τ.2)) := k_X12_draw_r d hJ rfl
/-! IsHeInModel.guest(II)I -/
theorem srt201 : m_srt mc201 = true := by decide +kernel
def F_X12_guest_31 (s : mG) : Option (Int32 × mG) :=
  some ((ci (-1)), s)
set_option maxRecDepth 4000 in
theorem k_X12_guest_31 {N : Nat} {xs : Nat → Int32} (d : Nat) {r : Option Value × mH} {s : mG} {τ : (Int32 × mG)} (hJ : F_X12_guest_31 s = some τ) (hC : (fun τ => r = (some (.int τ.1), (SH, τ.2))) τ) : Rn N xs (d + 1) me201 31 [none, none, none, none, none] [] (SH, s) r := by
  unfold F_X12_guest_31 at hJ
  refine Rn_sq srt201 16 1 (pc' := 32) (ls' := [none, none, none, none, none]) (st' := [(.int (ci (-1)))]) (h1 := (SH, s)) rfl ?_
  rw [← Option.some.inj hJ] at hC
  have hC : r = (some (.int (ci (-1))), (SH, s)) := hC
  subst hC
  exact Rn_ret srt201 17 rfl rfl rfl
def C_X12_guest_94 (N : Nat) (xs : Nat → Int32) (d : Nat) (r : Option Value × mH) (C : (Int32 × mG) → Prop) : ((Int32 × Int32 × mG) ⊕ (Int32 × mG)) → Prop
  | .inl v => Rn N xs (d + 1) me201 94 [some (.ref 88), none, none, some (.int v.1), some (.int v.2.1)] [] (SH, v.2.2) r
  | .inr a => C a
def F_X12_guest_B94 (x3 : Int32) (x4 : Int32) (s : mG) : Option ((Int32 × Int32 × mG) ⊕ (Int32 × mG)) :=
  if (c8 6) ≤ x4 then
    let s19 : mG := (mu s.1 89 112 ((s.1 89 112) + (ci 1)), s.2)
    b1 (F_X12_forgets s19) fun s21 =>
    some (Sum.inr (x3, s21))
  else
    if (((c8 39) + ((c8 6) * x3)) + x4) < 0 ∨ 1894 ≤ (((c8 39) + ((c8 6) * x3)) + x4).toNatClampNeg then none else
    let s23 : mG := (mu s.1 89 (((c8 39) + ((c8 6) * x3)) + x4).toNatClampNeg (ci (-1)), s.2)
    some (Sum.inl (x3, (x4 + ci 1), s23))
set_option maxRecDepth 4000 in
theorem k_X12_guest_B94 {N : Nat} {xs : Nat → Int32} (d : Nat) {r : Option Value × mH} {s : mG} {x3 : Int32} {x4 : Int32} {τ : ((Int32 × Int32 × mG) ⊕ (Int32 × mG))} (hJ : F_X12_guest_B94 x3 x4 s = some τ) (hC : (C_X12_guest_94 N xs d r (fun τ => r = (some (.int τ.1), (SH, τ.2)))) τ) : Rn N xs (d + 1) me201 94 [some (.ref 88), none, none, some (.int x3), some (.int x4)] [] (SH, s) r := by
  unfold F_X12_guest_B94 at hJ
  refine Rn_sq srt201 60 3 (pc' := (if (c8 6) ≤ x4 then 123 else 101)) (ls' := [some (.ref 88), none, none, some (.int x3), some (.int x4)]) (st' := []) (h1 := (SH, s)) rfl (Rn_if (fun h18 => ?_) (fun h18 => ?_))
  · replace hJ := m_ifp h18 hJ
    refine Rn_sq srt201 76 4 (pc' := 130) (ls' := [some (.ref 88), none, none, some (.int x3), some (.int x4)]) (st' := [(.int (c8 112)), (.ref 89), (.int (c8 112)), (.ref 89)]) (h1 := (SH, s)) rfl ?_
    refine Rn_ev srt201 80 rfl rfl rfl (op_ia sh89 (by decide) (k := 112) rfl) ?_
    refine Rn_sq srt201 81 2 (pc' := 133) (ls' := [some (.ref 88), none, none, some (.int x3), some (.int x4)]) (st' := [(.int ((s.1 89 112) + (ci 1))), (.int (c8 112)), (.ref 89)]) (h1 := (SH, s)) rfl ?_
    extract_lets +onlyGivenNames s19 at hJ
    refine Rn_ev srt201 83 rfl rfl rfl (op_ias sh89 (by decide) (k := 112) rfl) ?_
    refine Rn_sq srt201 84 1 (pc' := 135) (ls' := [some (.ref 88), none, none, some (.int x3), some (.int x4)]) (st' := [(.ref 88)]) (h1 := (SH, s19)) rfl ?_
    obtain ⟨s21, h20, hJ⟩ := m_b1 hJ
    refine Rn_call srt201 85 rfl rfl rfl ⟨Nat.le_of_ble_eq_true rfl, Nat.le_of_ble_eq_true rfl, rfl, Nat.le_of_ble_eq_true rfl⟩ (k_X12_forgets (d) h20) (show Rn N xs (d + 1) me201 138 [some (.ref 88), none, none, some (.int x3), some (.int x4)] [] (SH, s21) r from ?_)
    refine Rn_sq srt201 86 1 (pc' := 139) (ls' := [some (.ref 88), none, none, some (.int x3), some (.int x4)]) (st' := [(.int x3)]) (h1 := (SH, s21)) rfl ?_
    rw [← Option.some.inj hJ] at hC
    have hC : r = (some (.int x3), (SH, s21)) := hC
    subst hC
    exact Rn_ret srt201 87 rfl rfl rfl
  · replace hJ := m_ifn h18 hJ
    refine Rn_sq srt201 63 10 (pc' := 116) (ls' := [some (.ref 88), none, none, some (.int x3), some (.int x4)]) (st' := [(.int (ci (-1))), (.int (((c8 39) + ((c8 6) * x3)) + x4)), (.ref 89)]) (h1 := (SH, s)) rfl ?_
    obtain ⟨h22, hJ⟩ := m_gn hJ
    extract_lets +onlyGivenNames s23 at hJ
    refine Rn_ev srt201 73 rfl rfl rfl (op_ias sh89 h22 (k := (((c8 39) + ((c8 6) * x3)) + x4).toNatClampNeg) rfl) ?_
    refine Rn_sq srt201 74 2 (pc' := 94) (ls' := [some (.ref 88), none, none, some (.int x3), some (.int (x4 + ci 1))]) (st' := []) (h1 := (SH, s23)) rfl ?_
    rw [← Option.some.inj hJ] at hC
    exact hC
def F_X12_guest_L94 (x3 : Int32) (x4 : Int32) (s : mG) : Option (Int32 × mG) := whl (fun (v : (Int32 × Int32 × mG)) => F_X12_guest_B94 v.1 v.2.1 v.2.2) (x3, x4, s)
theorem k_X12_guest_L94 {N : Nat} {xs : Nat → Int32} (d : Nat) {r : Option Value × mH} {s : mG} {x3 : Int32} {x4 : Int32} {τ : (Int32 × mG)} (hJ : F_X12_guest_L94 x3 x4 s = some τ) (hC : (fun τ => r = (some (.int τ.1), (SH, τ.2))) τ) : Rn N xs (d + 1) me201 94 [some (.ref 88), none, none, some (.int x3), some (.int x4)] [] (SH, s) r :=
  whl_link (P := fun (v : (Int32 × Int32 × mG)) => Rn N xs (d + 1) me201 94 [some (.ref 88), none, none, some (.int v.1), some (.int v.2.1)] [] (SH, v.2.2) r) (C := (C_X12_guest_94 N xs d r (fun τ => r = (some (.int τ.1), (SH, τ.2))))) (fun v τ h1 h2 => k_X12_guest_B94 d h1 h2) (fun _ h => h) (fun _ h => h) _ _ hJ hC
def F_X12_guest (a1 : Int32) (a2 : Int32) (s : mG) : Option (Int32 × mG) :=
  b1 (F_X12_isIn s a1 (ci 0) (ci 3)) fun v2 =>
  if v2 = 0 then
    F_X12_guest_31 s
  else
    b1 (F_X12_isIn s a2 (ci 0) (c8 99)) fun v5 =>
    if v5 = 0 then
      F_X12_guest_31 s
    else
      if (s.1 89 112) = (c8 12) then
        F_X12_guest_31 s
      else
        if ((c8 119) + (s.1 89 112)) < 0 ∨ 1894 ≤ ((c8 119) + (s.1 89 112)).toNatClampNeg then none else
        let s9 : mG := (mu s.1 89 ((c8 119) + (s.1 89 112)).toNatClampNeg a1, s.2)
        if ((c16 131) + (s.1 89 112)) < 0 ∨ 1894 ≤ ((c16 131) + (s.1 89 112)).toNatClampNeg then none else
        let s11 : mG := (mu s9.1 89 ((c16 131) + (s.1 89 112)).toNatClampNeg a2, s9.2)
        if ((ci 3) + (s.1 89 112)) < 0 ∨ 1894 ≤ ((ci 3) + (s.1 89 112)).toNatClampNeg then none else
        let s13 : mG := (mu s11.1 89 ((ci 3) + (s.1 89 112)).toNatClampNeg (ci 0), s11.2)
        if ((c8 15) + (s.1 89 112)) < 0 ∨ 1894 ≤ ((c8 15) + (s.1 89 112)).toNatClampNeg then none else
        let s15 : mG := (mu s13.1 89 ((c8 15) + (s.1 89 112)).toNatClampNeg (ci (-1)), s13.2)
        if ((c8 27) + (s.1 89 112)) < 0 ∨ 1894 ≤ ((c8 27) + (s.1 89 112)).toNatClampNeg then none else
        let s17 : mG := (mu s15.1 89 ((c8 27) + (s.1 89 112)).toNatClampNeg (ci 0), s15.2)
        F_X12_guest_L94 (s.1 89 112) (ci 0) s17
set_option maxRecDepth 4000 in
theorem k_X12_guest_r {N : Nat} {xs : Nat → Int32} (d : Nat) {r : Option Value × mH} {s : mG} {a1 : Int32} {a2 : Int32} {τ : (Int32 × mG)} (hJ : F_X12_guest a1 a2 s = some τ) (hC : (fun τ => r = (some (.int τ.1), (SH, τ.2))) τ) : Rn N xs (d + 1) me201 0 [some (.ref 88), some (.int a1), some (.int a2), none, none] [] (SH, s) r := by
  unfold F_X12_guest at hJ
  refine Rn_sq srt201 0 3 (pc' := 3) (ls' := [some (.ref 88), some (.int a1), some (.int a2), none, none]) (st' := [(.int (ci 3)), (.int (ci 0)), (.int a1)]) (h1 := (SH, s)) rfl ?_
  obtain ⟨v2, h1, hJ⟩ := m_b1 hJ
  refine Rn_call srt201 3 rfl rfl rfl ⟨Nat.le_of_ble_eq_true rfl, Nat.le_of_ble_eq_true rfl, rfl, Nat.le_of_ble_eq_true rfl⟩ (k_X12_isIn (d) h1) (show Rn N xs (d + 1) me201 6 [some (.ref 88), some (.int a1), some (.int a2), none, none] [(.int v2)] (SH, s) r from ?_)
  refine Rn_sq srt201 4 1 (pc' := (if v2 = 0 then 31 else 9)) (ls' := [some (.ref 88), some (.int a1), some (.int a2), none, none]) (st' := []) (h1 := (SH, s)) rfl (Rn_if (fun h3 => ?_) (fun h3 => ?_))
  · replace hJ := m_ifp h3 hJ
    exact Rn_weaken (a := [none, none, none, none, none]) (b := [some (.ref 88), some (.int a1), some (.int a2), none, none]) trivial rfl (k_X12_guest_31 d hJ hC)
  · replace hJ := m_ifn h3 hJ
    refine Rn_sq srt201 5 3 (pc' := 13) (ls' := [some (.ref 88), some (.int a1), some (.int a2), none, none]) (st' := [(.int (c8 99)), (.int (ci 0)), (.int a2)]) (h1 := (SH, s)) rfl ?_
    obtain ⟨v5, h4, hJ⟩ := m_b1 hJ
    refine Rn_call srt201 8 rfl rfl rfl ⟨Nat.le_of_ble_eq_true rfl, Nat.le_of_ble_eq_true rfl, rfl, Nat.le_of_ble_eq_true rfl⟩ (k_X12_isIn (d) h4) (show Rn N xs (d + 1) me201 16 [some (.ref 88), some (.int a1), some (.int a2), none, none] [(.int v5)] (SH, s) r from ?_)
    refine Rn_sq srt201 9 1 (pc' := (if v5 = 0 then 31 else 19)) (ls' := [some (.ref 88), some (.int a1), some (.int a2), none, none]) (st' := []) (h1 := (SH, s)) rfl (Rn_if (fun h6 => ?_) (fun h6 => ?_))
    · replace hJ := m_ifp h6 hJ
      exact Rn_weaken (a := [none, none, none, none, none]) (b := [some (.ref 88), some (.int a1), some (.int a2), none, none]) trivial rfl (k_X12_guest_31 d hJ hC)
    · replace hJ := m_ifn h6 hJ
      refine Rn_sq srt201 10 3 (pc' := 25) (ls' := [some (.ref 88), some (.int a1), some (.int a2), none, none]) (st' := [(.int (c8 112)), (.ref 89)]) (h1 := (SH, s)) rfl ?_
      refine Rn_ev srt201 13 rfl rfl rfl (op_ia sh89 (by decide) (k := 112) rfl) ?_
      refine Rn_sq srt201 14 2 (pc' := (if (s.1 89 112) = (c8 12) then 31 else 33)) (ls' := [some (.ref 88), some (.int a1), some (.int a2), none, none]) (st' := []) (h1 := (SH, s)) rfl (Rn_if (fun h7 => ?_) (fun h7 => ?_))
      · replace hJ := m_ifp h7 hJ
        exact Rn_weaken (a := [none, none, none, none, none]) (b := [some (.ref 88), some (.int a1), some (.int a2), none, none]) trivial rfl (k_X12_guest_31 d hJ hC)
      · replace hJ := m_ifn h7 hJ
        refine Rn_sq srt201 18 3 (pc' := 39) (ls' := [some (.ref 88), some (.int a1), some (.int a2), none, none]) (st' := [(.int (c8 112)), (.ref 89)]) (h1 := (SH, s)) rfl ?_
        refine Rn_ev srt201 21 rfl rfl rfl (op_ia sh89 (by decide) (k := 112) rfl) ?_
        refine Rn_sq srt201 22 7 (pc' := 50) (ls' := [some (.ref 88), some (.int a1), some (.int a2), some (.int (s.1 89 112)), none]) (st' := [(.int a1), (.int ((c8 119) + (s.1 89 112))), (.ref 89)]) (h1 := (SH, s)) rfl ?_
        obtain ⟨h8, hJ⟩ := m_gn hJ
        extract_lets +onlyGivenNames s9 at hJ
        refine Rn_ev srt201 29 rfl rfl rfl (op_ias sh89 h8 (k := ((c8 119) + (s.1 89 112)).toNatClampNeg) rfl) ?_
        refine Rn_sq srt201 30 6 (pc' := 61) (ls' := [some (.ref 88), some (.int a1), some (.int a2), some (.int (s.1 89 112)), none]) (st' := [(.int a2), (.int ((c16 131) + (s.1 89 112))), (.ref 89)]) (h1 := (SH, s9)) rfl ?_
        obtain ⟨h10, hJ⟩ := m_gn hJ
        extract_lets +onlyGivenNames s11 at hJ
        refine Rn_ev srt201 36 rfl rfl rfl (op_ias sh89 h10 (k := ((c16 131) + (s.1 89 112)).toNatClampNeg) rfl) ?_
        refine Rn_sq srt201 37 6 (pc' := 70) (ls' := [some (.ref 88), some (.int a1), some (.int a2), some (.int (s.1 89 112)), none]) (st' := [(.int (ci 0)), (.int ((ci 3) + (s.1 89 112))), (.ref 89)]) (h1 := (SH, s11)) rfl ?_
        obtain ⟨h12, hJ⟩ := m_gn hJ
        extract_lets +onlyGivenNames s13 at hJ
        refine Rn_ev srt201 43 rfl rfl rfl (op_ias sh89 h12 (k := ((ci 3) + (s.1 89 112)).toNatClampNeg) rfl) ?_
        refine Rn_sq srt201 44 6 (pc' := 80) (ls' := [some (.ref 88), some (.int a1), some (.int a2), some (.int (s.1 89 112)), none]) (st' := [(.int (ci (-1))), (.int ((c8 15) + (s.1 89 112))), (.ref 89)]) (h1 := (SH, s13)) rfl ?_
        obtain ⟨h14, hJ⟩ := m_gn hJ
        extract_lets +onlyGivenNames s15 at hJ
        refine Rn_ev srt201 50 rfl rfl rfl (op_ias sh89 h14 (k := ((c8 15) + (s.1 89 112)).toNatClampNeg) rfl) ?_
        refine Rn_sq srt201 51 6 (pc' := 90) (ls' := [some (.ref 88), some (.int a1), some (.int a2), some (.int (s.1 89 112)), none]) (st' := [(.int (ci 0)), (.int ((c8 27) + (s.1 89 112))), (.ref 89)]) (h1 := (SH, s15)) rfl ?_
        obtain ⟨h16, hJ⟩ := m_gn hJ
        extract_lets +onlyGivenNames s17 at hJ
        refine Rn_ev srt201 57 rfl rfl rfl (op_ias sh89 h16 (k := ((c8 27) + (s.1 89 112)).toNatClampNeg) rfl) ?_
        refine Rn_sq srt201 58 2 (pc' := 94) (ls' := [some (.ref 88), some (.int a1), some (.int a2), some (.int (s.1 89 112)), some (.int (ci 0))]) (st' := []) (h1 := (SH, s17)) rfl ?_
        exact Rn_weaken (a := [some (.ref 88), none, none, some (.int (s.1 89 112)), some (.int (ci 0))]) (b := [some (.ref 88), some (.int a1), some (.int a2), some (.int (s.1 89 112)), some (.int (ci 0))]) (And.intro rfl (And.intro rfl (And.intro rfl trivial))) rfl (k_X12_guest_L94 d hJ hC)
theorem k_X12_guest {N : Nat} {xs : Nat → Int32} (d : Nat) {s : mG} {a1 : Int32} {a2 : Int32} {τ : (Int32 × mG)} (hJ : F_X12_guest a1 a2 s = some τ) : Rn N xs (d + 1) me201 0 [some (.ref 88), some (.int a1), some (.int a2), none, none] [] (SH, s) (some (.int τ.1), (SH, τ.2)) := k_X12_guest_r d hJ rfl
/-! IsHeInModel.set(III)Z -/
theorem srt202 : m_srt mc202 = true := by decide +kernel
def F_X12_set_110 (s : mG) : Option (Int32 × mG) :=
  b1 (F_X12_forgets s) fun s7 =>
  some ((ci 1), s7)
set_option maxRecDepth 4000 in
theorem k_X12_set_110 {N : Nat} {xs : Nat → Int32} (d : Nat) {r : Option Value × mH} {s : mG} {τ : (Int32 × mG)} (hJ : F_X12_set_110 s = some τ) (hC : (fun τ => r = (some (.int τ.1), (SH, τ.2))) τ) : Rn N xs (d + 2) me202 110 [some (.ref 88), none, none, none] [] (SH, s) r := by
  unfold F_X12_set_110 at hJ
  refine Rn_sq srt202 49 1 (pc' := 111) (ls' := [some (.ref 88), none, none, none]) (st' := [(.ref 88)]) (h1 := (SH, s)) rfl ?_
  obtain ⟨s7, h6, hJ⟩ := m_b1 hJ
  refine Rn_call srt202 50 rfl rfl rfl ⟨Nat.le_of_ble_eq_true rfl, Nat.le_of_ble_eq_true rfl, rfl, Nat.le_of_ble_eq_true rfl⟩ (k_X12_forgets (d + 1) h6) (show Rn N xs (d + 2) me202 114 [some (.ref 88), none, none, none] [] (SH, s7) r from ?_)
  refine Rn_sq srt202 51 1 (pc' := 115) (ls' := [some (.ref 88), none, none, none]) (st' := [(.int (ci 1))]) (h1 := (SH, s7)) rfl ?_
  rw [← Option.some.inj hJ] at hC
  have hC : r = (some (.int (ci 1)), (SH, s7)) := hC
  subst hC
  exact Rn_ret srt202 52 rfl rfl (m_ret_b rfl (by decide))
def F_X12_set_92 (s : mG) : Option (Int32 × mG) :=
  some ((ci 0), s)
set_option maxRecDepth 4000 in
theorem k_X12_set_92 {N : Nat} {xs : Nat → Int32} (d : Nat) {r : Option Value × mH} {s : mG} {τ : (Int32 × mG)} (hJ : F_X12_set_92 s = some τ) (hC : (fun τ => r = (some (.int τ.1), (SH, τ.2))) τ) : Rn N xs (d + 2) me202 92 [none, none, none, none] [] (SH, s) r := by
  unfold F_X12_set_92 at hJ
  refine Rn_sq srt202 37 1 (pc' := 93) (ls' := [none, none, none, none]) (st' := [(.int (ci 0))]) (h1 := (SH, s)) rfl ?_
  rw [← Option.some.inj hJ] at hC
  have hC : r = (some (.int (ci 0)), (SH, s)) := hC
  subst hC
  exact Rn_ret srt202 38 rfl rfl (m_ret_b rfl (by decide))
def F_X12_set (a1 : Int32) (a2 : Int32) (a3 : Int32) (s : mG) : Option (Int32 × mG) :=
  if a1 = ci 0 then
    b1 (F_X12_isIn s a3 (ci 0) (c8 20)) fun v3 =>
    if v3 = 0 then
      some ((ci 0), s)
    else
      let s5 : mG := (mu s.1 89 113 a3, s.2)
      F_X12_set_110 s5
  else
  if a1 = ci 1 then
    b1 (F_X12_isIn s a3 (ci 0) (c8 9)) fun v10 =>
    if v10 = 0 then
      some ((ci 0), s)
    else
      let s12 : mG := (mu s.1 89 114 a3, s.2)
      F_X12_set_110 s12
  else
  if a1 = ci 2 then
    b1 (F_X12_isGuest s a2) fun v15 =>
    if v15 = 0 then
      F_X12_set_92 s
    else
      b1 (F_X12_isIn s a3 (ci 0) (c8 99)) fun v18 =>
      if v18 = 0 then
        F_X12_set_92 s
      else
        if ((c16 131) + a2) < 0 ∨ 1894 ≤ ((c16 131) + a2).toNatClampNeg then none else
        let s21 : mG := (mu s.1 89 ((c16 131) + a2).toNatClampNeg a3, s.2)
        F_X12_set_110 s21
  else
  some ((ci 0), s)
set_option maxRecDepth 4000 in
theorem k_X12_set_r {N : Nat} {xs : Nat → Int32} (d : Nat) {r : Option Value × mH} {s : mG} {a1 : Int32} {a2 : Int32} {a3 : Int32} {τ : (Int32 × mG)} (hJ : F_X12_set a1 a2 a3 s = some τ) (hC : (fun τ => r = (some (.int τ.1), (SH, τ.2))) τ) : Rn N xs (d + 2) me202 0 [some (.ref 88), some (.int a1), some (.int a2), some (.int a3)] [] (SH, s) r := by
  unfold F_X12_set at hJ
  refine Rn_sq srt202 0 1 (pc' := 1) (ls' := [some (.ref 88), some (.int a1), some (.int a2), some (.int a3)]) (st' := [(.int a1)]) (h1 := (SH, s)) rfl ?_
  by_cases h1 : a1 = ci 0
  · replace hJ := m_ifp h1 hJ
    refine Rn_ev srt202 1 rfl rfl rfl (op_sw h1 (show _ = some (28, _) from rfl)) ?_
    refine Rn_sq srt202 2 3 (pc' := 32) (ls' := [some (.ref 88), some (.int a1), some (.int a2), some (.int a3)]) (st' := [(.int (c8 20)), (.int (ci 0)), (.int a3)]) (h1 := (SH, s)) rfl ?_
    obtain ⟨v3, h2, hJ⟩ := m_b1 hJ
    refine Rn_call srt202 5 rfl rfl rfl ⟨Nat.le_of_ble_eq_true rfl, Nat.le_of_ble_eq_true rfl, rfl, Nat.le_of_ble_eq_true rfl⟩ (k_X12_isIn (d + 1) h2) (show Rn N xs (d + 2) me202 35 [some (.ref 88), some (.int a1), some (.int a2), some (.int a3)] [(.int v3)] (SH, s) r from ?_)
    refine Rn_sq srt202 6 1 (pc' := (if v3 = 0 then 38 else 40)) (ls' := [some (.ref 88), some (.int a1), some (.int a2), some (.int a3)]) (st' := []) (h1 := (SH, s)) rfl (Rn_if (fun h4 => ?_) (fun h4 => ?_))
    · replace hJ := m_ifp h4 hJ
      refine Rn_sq srt202 7 1 (pc' := 39) (ls' := [some (.ref 88), some (.int a1), some (.int a2), some (.int a3)]) (st' := [(.int (ci 0))]) (h1 := (SH, s)) rfl ?_
      rw [← Option.some.inj hJ] at hC
      have hC : r = (some (.int (ci 0)), (SH, s)) := hC
      subst hC
      exact Rn_ret srt202 8 rfl rfl (m_ret_b rfl (by decide))
    · replace hJ := m_ifn h4 hJ
      refine Rn_sq srt202 9 4 (pc' := 47) (ls' := [some (.ref 88), some (.int a1), some (.int a2), some (.int a3)]) (st' := [(.int a3), (.int (c8 113)), (.ref 89)]) (h1 := (SH, s)) rfl ?_
      extract_lets +onlyGivenNames s5 at hJ
      refine Rn_ev srt202 13 rfl rfl rfl (op_ias sh89 (by decide) (k := 113) rfl) ?_
      refine Rn_sq srt202 14 1 (pc' := 110) (ls' := [some (.ref 88), some (.int a1), some (.int a2), some (.int a3)]) (st' := []) (h1 := (SH, s5)) rfl ?_
      exact Rn_weaken (a := [some (.ref 88), none, none, none]) (b := [some (.ref 88), some (.int a1), some (.int a2), some (.int a3)]) (And.intro rfl trivial) rfl (k_X12_set_110 d hJ hC)
  replace hJ := m_ifn h1 hJ
  by_cases h8 : a1 = ci 1
  · replace hJ := m_ifp h8 hJ
    refine Rn_ev srt202 1 rfl rfl rfl (op_sw h8 (show _ = some (51, _) from rfl)) ?_
    refine Rn_sq srt202 15 3 (pc' := 55) (ls' := [some (.ref 88), some (.int a1), some (.int a2), some (.int a3)]) (st' := [(.int (c8 9)), (.int (ci 0)), (.int a3)]) (h1 := (SH, s)) rfl ?_
    obtain ⟨v10, h9, hJ⟩ := m_b1 hJ
    refine Rn_call srt202 18 rfl rfl rfl ⟨Nat.le_of_ble_eq_true rfl, Nat.le_of_ble_eq_true rfl, rfl, Nat.le_of_ble_eq_true rfl⟩ (k_X12_isIn (d + 1) h9) (show Rn N xs (d + 2) me202 58 [some (.ref 88), some (.int a1), some (.int a2), some (.int a3)] [(.int v10)] (SH, s) r from ?_)
    refine Rn_sq srt202 19 1 (pc' := (if v10 = 0 then 61 else 63)) (ls' := [some (.ref 88), some (.int a1), some (.int a2), some (.int a3)]) (st' := []) (h1 := (SH, s)) rfl (Rn_if (fun h11 => ?_) (fun h11 => ?_))
    · replace hJ := m_ifp h11 hJ
      refine Rn_sq srt202 20 1 (pc' := 62) (ls' := [some (.ref 88), some (.int a1), some (.int a2), some (.int a3)]) (st' := [(.int (ci 0))]) (h1 := (SH, s)) rfl ?_
      rw [← Option.some.inj hJ] at hC
      have hC : r = (some (.int (ci 0)), (SH, s)) := hC
      subst hC
      exact Rn_ret srt202 21 rfl rfl (m_ret_b rfl (by decide))
    · replace hJ := m_ifn h11 hJ
      refine Rn_sq srt202 22 4 (pc' := 70) (ls' := [some (.ref 88), some (.int a1), some (.int a2), some (.int a3)]) (st' := [(.int a3), (.int (c8 114)), (.ref 89)]) (h1 := (SH, s)) rfl ?_
      extract_lets +onlyGivenNames s12 at hJ
      refine Rn_ev srt202 26 rfl rfl rfl (op_ias sh89 (by decide) (k := 114) rfl) ?_
      refine Rn_sq srt202 27 1 (pc' := 110) (ls' := [some (.ref 88), some (.int a1), some (.int a2), some (.int a3)]) (st' := []) (h1 := (SH, s12)) rfl ?_
      exact Rn_weaken (a := [some (.ref 88), none, none, none]) (b := [some (.ref 88), some (.int a1), some (.int a2), some (.int a3)]) (And.intro rfl trivial) rfl (k_X12_set_110 d hJ hC)
  replace hJ := m_ifn h8 hJ
  by_cases h13 : a1 = ci 2
  · replace hJ := m_ifp h13 hJ
    refine Rn_ev srt202 1 rfl rfl rfl (op_sw h13 (show _ = some (74, _) from rfl)) ?_
    refine Rn_sq srt202 28 2 (pc' := 76) (ls' := [some (.ref 88), some (.int a1), some (.int a2), some (.int a3)]) (st' := [(.int a2), (.ref 88)]) (h1 := (SH, s)) rfl ?_
    obtain ⟨v15, h14, hJ⟩ := m_b1 hJ
    refine Rn_call srt202 30 rfl rfl rfl ⟨Nat.le_of_ble_eq_true rfl, Nat.le_of_ble_eq_true rfl, rfl, Nat.le_of_ble_eq_true rfl⟩ (k_X12_isGuest (d) h14) (show Rn N xs (d + 2) me202 79 [some (.ref 88), some (.int a1), some (.int a2), some (.int a3)] [(.int v15)] (SH, s) r from ?_)
    refine Rn_sq srt202 31 1 (pc' := (if v15 = 0 then 92 else 82)) (ls' := [some (.ref 88), some (.int a1), some (.int a2), some (.int a3)]) (st' := []) (h1 := (SH, s)) rfl (Rn_if (fun h16 => ?_) (fun h16 => ?_))
    · replace hJ := m_ifp h16 hJ
      exact Rn_weaken (a := [none, none, none, none]) (b := [some (.ref 88), some (.int a1), some (.int a2), some (.int a3)]) trivial rfl (k_X12_set_92 d hJ hC)
    · replace hJ := m_ifn h16 hJ
      refine Rn_sq srt202 32 3 (pc' := 86) (ls' := [some (.ref 88), some (.int a1), some (.int a2), some (.int a3)]) (st' := [(.int (c8 99)), (.int (ci 0)), (.int a3)]) (h1 := (SH, s)) rfl ?_
      obtain ⟨v18, h17, hJ⟩ := m_b1 hJ
      refine Rn_call srt202 35 rfl rfl rfl ⟨Nat.le_of_ble_eq_true rfl, Nat.le_of_ble_eq_true rfl, rfl, Nat.le_of_ble_eq_true rfl⟩ (k_X12_isIn (d + 1) h17) (show Rn N xs (d + 2) me202 89 [some (.ref 88), some (.int a1), some (.int a2), some (.int a3)] [(.int v18)] (SH, s) r from ?_)
      refine Rn_sq srt202 36 1 (pc' := (if v18 = 0 then 92 else 94)) (ls' := [some (.ref 88), some (.int a1), some (.int a2), some (.int a3)]) (st' := []) (h1 := (SH, s)) rfl (Rn_if (fun h19 => ?_) (fun h19 => ?_))
      · replace hJ := m_ifp h19 hJ
        exact Rn_weaken (a := [none, none, none, none]) (b := [some (.ref 88), some (.int a1), some (.int a2), some (.int a3)]) trivial rfl (k_X12_set_92 d hJ hC)
      · replace hJ := m_ifn h19 hJ
        refine Rn_sq srt202 39 6 (pc' := 104) (ls' := [some (.ref 88), some (.int a1), some (.int a2), some (.int a3)]) (st' := [(.int a3), (.int ((c16 131) + a2)), (.ref 89)]) (h1 := (SH, s)) rfl ?_
        obtain ⟨h20, hJ⟩ := m_gn hJ
        extract_lets +onlyGivenNames s21 at hJ
        refine Rn_ev srt202 45 rfl rfl rfl (op_ias sh89 h20 (k := ((c16 131) + a2).toNatClampNeg) rfl) ?_
        refine Rn_sq srt202 46 1 (pc' := 110) (ls' := [some (.ref 88), some (.int a1), some (.int a2), some (.int a3)]) (st' := []) (h1 := (SH, s21)) rfl ?_
        exact Rn_weaken (a := [some (.ref 88), none, none, none]) (b := [some (.ref 88), some (.int a1), some (.int a2), some (.int a3)]) (And.intro rfl trivial) rfl (k_X12_set_110 d hJ hC)
  replace hJ := m_ifn h13 hJ
  refine Rn_ev srt202 1 rfl rfl rfl (op_swd (tg := 108) (sw_out (by decide) (by decide) (by intro v hv1 hv2; rcases (show v = 0 ∨ v = 1 ∨ v = 2 by omega) with rfl | rfl | rfl <;> assumption)) rfl) ?_
  refine Rn_sq srt202 47 1 (pc' := 109) (ls' := [some (.ref 88), some (.int a1), some (.int a2), some (.int a3)]) (st' := [(.int (ci 0))]) (h1 := (SH, s)) rfl ?_
  rw [← Option.some.inj hJ] at hC
  have hC : r = (some (.int (ci 0)), (SH, s)) := hC
  subst hC
  exact Rn_ret srt202 48 rfl rfl (m_ret_b rfl (by decide))
theorem k_X12_set {N : Nat} {xs : Nat → Int32} (d : Nat) {s : mG} {a1 : Int32} {a2 : Int32} {a3 : Int32} {τ : (Int32 × mG)} (hJ : F_X12_set a1 a2 a3 s = some τ) : Rn N xs (d + 2) me202 0 [some (.ref 88), some (.int a1), some (.int a2), some (.int a3)] [] (SH, s) (some (.int τ.1), (SH, τ.2)) := k_X12_set_r d hJ rfl
/-! IsHeInModel.feed(IIIII)I -/
theorem srt203 : m_srt mc203 = true := by decide +kernel
def C_X12_feed_18 (N : Nat) (xs : Nat → Int32) (d : Nat) (r : Option Value × mH) (C : (Int32 × mG) → Prop) : ((Int32 × Int32 × Int32 × Int32 × Int32 × Int32 × mG) ⊕ (Int32 × mG)) → Prop
  | .inl v => Rn N xs (d + 0) me203 18 [some (.ref 88), some (.int v.1), some (.int v.2.1), some (.int v.2.2.1), some (.int v.2.2.2.1), some (.int v.2.2.2.2.1), some (.int v.2.2.2.2.2.1), none] [] (SH, v.2.2.2.2.2.2) r
  | .inr a => C a
def F_X12_feed_71 (x1 : Int32) (x2 : Int32) (x3 : Int32) (x4 : Int32) (x5 : Int32) (x6 : Int32) (y0 : Int32) (s : mG) : Option ((Int32 × Int32 × Int32 × Int32 × Int32 × Int32 × mG) ⊕ (Int32 × mG)) :=
  if (s.1 88 15) < 0 ∨ 400 ≤ (s.1 88 15).toNatClampNeg then none else
  let s8 : mG := (mu s.1 95 (s.1 88 15).toNatClampNeg ((y0 >>> (((c8 24) - ((c8 8) * (rm x6 (ci 4)))) &&& 31)) &&& (c16 255)), s.2)
  let s9 : mG := (mu s8.1 88 15 ((s8.1 88 15) + (ci 1)), s8.2)
  some (Sum.inl (x1, x2, x3, x4, x5, (x6 + ci 1), s9))
set_option maxRecDepth 4000 in
theorem k_X12_feed_71 {N : Nat} {xs : Nat → Int32} (d : Nat) {r : Option Value × mH} {s : mG} {x1 : Int32} {x2 : Int32} {x3 : Int32} {x4 : Int32} {x5 : Int32} {x6 : Int32} {y0 : Int32} {τ : ((Int32 × Int32 × Int32 × Int32 × Int32 × Int32 × mG) ⊕ (Int32 × mG))} (hJ : F_X12_feed_71 x1 x2 x3 x4 x5 x6 y0 s = some τ) (hC : (C_X12_feed_18 N xs d r (fun τ => r = (some (.int τ.1), (SH, τ.2)))) τ) : Rn N xs (d + 0) me203 71 [some (.ref 88), some (.int x1), some (.int x2), some (.int x3), some (.int x4), some (.int x5), some (.int x6), none] [(.int y0)] (SH, s) r := by
  unfold F_X12_feed_71 at hJ
  refine Rn_sq srt203 34 10 (pc' := 90) (ls' := [some (.ref 88), some (.int x1), some (.int x2), some (.int x3), some (.int x4), some (.int x5), some (.int x6), some (.int y0)]) (st' := [(.int (ci 4)), (.int x6), (.int (c8 8)), (.int (c8 24)), (.int y0), (.int (s.1 88 15)), (.ref 95)]) (h1 := (SH, s)) rfl ?_
  refine Rn_ev srt203 44 rfl rfl rfl (op_irem (by decide)) ?_
  refine Rn_sq srt203 45 5 (pc' := 98) (ls' := [some (.ref 88), some (.int x1), some (.int x2), some (.int x3), some (.int x4), some (.int x5), some (.int x6), some (.int y0)]) (st' := [(.int ((y0 >>> (((c8 24) - ((c8 8) * (rm x6 (ci 4)))) &&& 31)) &&& (c16 255))), (.int (s.1 88 15)), (.ref 95)]) (h1 := (SH, s)) rfl ?_
  obtain ⟨h7, hJ⟩ := m_gn hJ
  extract_lets +onlyGivenNames s8 at hJ
  refine Rn_ev srt203 50 rfl rfl rfl (op_ias sh95 h7 (k := (s.1 88 15).toNatClampNeg) rfl) ?_
  extract_lets +onlyGivenNames s9 at hJ
  refine Rn_sq srt203 51 8 (pc' := 18) (ls' := [some (.ref 88), some (.int x1), some (.int x2), some (.int x3), some (.int x4), some (.int x5), some (.int (x6 + ci 1)), some (.int y0)]) (st' := []) (h1 := (SH, s9)) rfl ?_
  rw [← Option.some.inj hJ] at hC
  exact Rn_weaken (a := [some (.ref 88), some (.int x1), some (.int x2), some (.int x3), some (.int x4), some (.int x5), some (.int (x6 + ci 1)), none]) (b := [some (.ref 88), some (.int x1), some (.int x2), some (.int x3), some (.int x4), some (.int x5), some (.int (x6 + ci 1)), some (.int y0)]) (And.intro rfl (And.intro rfl (And.intro rfl (And.intro rfl (And.intro rfl (And.intro rfl (And.intro rfl trivial))))))) rfl hC
def F_X12_feed_B18 (x1 : Int32) (x2 : Int32) (x3 : Int32) (x4 : Int32) (x5 : Int32) (x6 : Int32) (s : mG) : Option ((Int32 × Int32 × Int32 × Int32 × Int32 × Int32 × mG) ⊕ (Int32 × mG)) :=
  if (c8 20) ≤ x6 then
    some (Sum.inr ((s.1 88 15), s))
  else
    if (ci 4) ≤ x6 then
      if (c8 8) ≤ x6 then
        if (c8 12) ≤ x6 then
          if (c8 16) ≤ x6 then
            F_X12_feed_71 x1 x2 x3 x4 x5 x6 x5 s
          else
            F_X12_feed_71 x1 x2 x3 x4 x5 x6 x4 s
        else
          F_X12_feed_71 x1 x2 x3 x4 x5 x6 x3 s
      else
        F_X12_feed_71 x1 x2 x3 x4 x5 x6 x2 s
    else
      F_X12_feed_71 x1 x2 x3 x4 x5 x6 x1 s
set_option maxRecDepth 4000 in
theorem k_X12_feed_B18 {N : Nat} {xs : Nat → Int32} (d : Nat) {r : Option Value × mH} {s : mG} {x1 : Int32} {x2 : Int32} {x3 : Int32} {x4 : Int32} {x5 : Int32} {x6 : Int32} {τ : ((Int32 × Int32 × Int32 × Int32 × Int32 × Int32 × mG) ⊕ (Int32 × mG))} (hJ : F_X12_feed_B18 x1 x2 x3 x4 x5 x6 s = some τ) (hC : (C_X12_feed_18 N xs d r (fun τ => r = (some (.int τ.1), (SH, τ.2)))) τ) : Rn N xs (d + 0) me203 18 [some (.ref 88), some (.int x1), some (.int x2), some (.int x3), some (.int x4), some (.int x5), some (.int x6), none] [] (SH, s) r := by
  unfold F_X12_feed_B18 at hJ
  refine Rn_sq srt203 10 3 (pc' := (if (c8 20) ≤ x6 then 115 else 25)) (ls' := [some (.ref 88), some (.int x1), some (.int x2), some (.int x3), some (.int x4), some (.int x5), some (.int x6), none]) (st' := []) (h1 := (SH, s)) rfl (Rn_if (fun h2 => ?_) (fun h2 => ?_))
  · replace hJ := m_ifp h2 hJ
    refine Rn_sq srt203 59 2 (pc' := 119) (ls' := [some (.ref 88), some (.int x1), some (.int x2), some (.int x3), some (.int x4), some (.int x5), some (.int x6), none]) (st' := [(.int (s.1 88 15))]) (h1 := (SH, s)) rfl ?_
    rw [← Option.some.inj hJ] at hC
    have hC : r = (some (.int (s.1 88 15)), (SH, s)) := hC
    subst hC
    exact Rn_ret srt203 61 rfl rfl rfl
  · replace hJ := m_ifn h2 hJ
    refine Rn_sq srt203 13 3 (pc' := (if (ci 4) ≤ x6 then 35 else 31)) (ls' := [some (.ref 88), some (.int x1), some (.int x2), some (.int x3), some (.int x4), some (.int x5), some (.int x6), none]) (st' := []) (h1 := (SH, s)) rfl (Rn_if (fun h3 => ?_) (fun h3 => ?_))
    · replace hJ := m_ifp h3 hJ
      refine Rn_sq srt203 18 3 (pc' := (if (c8 8) ≤ x6 then 46 else 42)) (ls' := [some (.ref 88), some (.int x1), some (.int x2), some (.int x3), some (.int x4), some (.int x5), some (.int x6), none]) (st' := []) (h1 := (SH, s)) rfl (Rn_if (fun h4 => ?_) (fun h4 => ?_))
      · replace hJ := m_ifp h4 hJ
        refine Rn_sq srt203 23 3 (pc' := (if (c8 12) ≤ x6 then 57 else 53)) (ls' := [some (.ref 88), some (.int x1), some (.int x2), some (.int x3), some (.int x4), some (.int x5), some (.int x6), none]) (st' := []) (h1 := (SH, s)) rfl (Rn_if (fun h5 => ?_) (fun h5 => ?_))
        · replace hJ := m_ifp h5 hJ
          refine Rn_sq srt203 28 3 (pc' := (if (c8 16) ≤ x6 then 69 else 64)) (ls' := [some (.ref 88), some (.int x1), some (.int x2), some (.int x3), some (.int x4), some (.int x5), some (.int x6), none]) (st' := []) (h1 := (SH, s)) rfl (Rn_if (fun h6 => ?_) (fun h6 => ?_))
          · replace hJ := m_ifp h6 hJ
            refine Rn_sq srt203 33 1 (pc' := 71) (ls' := [some (.ref 88), some (.int x1), some (.int x2), some (.int x3), some (.int x4), some (.int x5), some (.int x6), none]) (st' := [(.int x5)]) (h1 := (SH, s)) rfl ?_
            exact (k_X12_feed_71 d hJ hC)
          · replace hJ := m_ifn h6 hJ
            refine Rn_sq srt203 31 2 (pc' := 71) (ls' := [some (.ref 88), some (.int x1), some (.int x2), some (.int x3), some (.int x4), some (.int x5), some (.int x6), none]) (st' := [(.int x4)]) (h1 := (SH, s)) rfl ?_
            exact (k_X12_feed_71 d hJ hC)
        · replace hJ := m_ifn h5 hJ
          refine Rn_sq srt203 26 2 (pc' := 71) (ls' := [some (.ref 88), some (.int x1), some (.int x2), some (.int x3), some (.int x4), some (.int x5), some (.int x6), none]) (st' := [(.int x3)]) (h1 := (SH, s)) rfl ?_
          exact (k_X12_feed_71 d hJ hC)
      · replace hJ := m_ifn h4 hJ
        refine Rn_sq srt203 21 2 (pc' := 71) (ls' := [some (.ref 88), some (.int x1), some (.int x2), some (.int x3), some (.int x4), some (.int x5), some (.int x6), none]) (st' := [(.int x2)]) (h1 := (SH, s)) rfl ?_
        exact (k_X12_feed_71 d hJ hC)
    · replace hJ := m_ifn h3 hJ
      refine Rn_sq srt203 16 2 (pc' := 71) (ls' := [some (.ref 88), some (.int x1), some (.int x2), some (.int x3), some (.int x4), some (.int x5), some (.int x6), none]) (st' := [(.int x1)]) (h1 := (SH, s)) rfl ?_
      exact (k_X12_feed_71 d hJ hC)
def F_X12_feed_L18 (x1 : Int32) (x2 : Int32) (x3 : Int32) (x4 : Int32) (x5 : Int32) (x6 : Int32) (s : mG) : Option (Int32 × mG) := whl (fun (v : (Int32 × Int32 × Int32 × Int32 × Int32 × Int32 × mG)) => F_X12_feed_B18 v.1 v.2.1 v.2.2.1 v.2.2.2.1 v.2.2.2.2.1 v.2.2.2.2.2.1 v.2.2.2.2.2.2) (x1, x2, x3, x4, x5, x6, s)
theorem k_X12_feed_L18 {N : Nat} {xs : Nat → Int32} (d : Nat) {r : Option Value × mH} {s : mG} {x1 : Int32} {x2 : Int32} {x3 : Int32} {x4 : Int32} {x5 : Int32} {x6 : Int32} {τ : (Int32 × mG)} (hJ : F_X12_feed_L18 x1 x2 x3 x4 x5 x6 s = some τ) (hC : (fun τ => r = (some (.int τ.1), (SH, τ.2))) τ) : Rn N xs (d + 0) me203 18 [some (.ref 88), some (.int x1), some (.int x2), some (.int x3), some (.int x4), some (.int x5), some (.int x6), none] [] (SH, s) r :=
  whl_link (P := fun (v : (Int32 × Int32 × Int32 × Int32 × Int32 × Int32 × mG)) => Rn N xs (d + 0) me203 18 [some (.ref 88), some (.int v.1), some (.int v.2.1), some (.int v.2.2.1), some (.int v.2.2.2.1), some (.int v.2.2.2.2.1), some (.int v.2.2.2.2.2.1), none] [] (SH, v.2.2.2.2.2.2) r) (C := (C_X12_feed_18 N xs d r (fun τ => r = (some (.int τ.1), (SH, τ.2))))) (fun v τ h1 h2 => k_X12_feed_B18 d h1 h2) (fun _ h => h) (fun _ h => h) _ _ hJ hC
def F_X12_feed (a1 : Int32) (a2 : Int32) (a3 : Int32) (a4 : Int32) (a5 : Int32) (s : mG) : Option (Int32 × mG) :=
  if ((s.1 88 15) + (c8 20)) ≤ (c16 400) then
    F_X12_feed_L18 a1 a2 a3 a4 a5 (ci 0) s
  else
    some ((ci (-1)), s)
set_option maxRecDepth 4000 in
theorem k_X12_feed_r {N : Nat} {xs : Nat → Int32} (d : Nat) {r : Option Value × mH} {s : mG} {a1 : Int32} {a2 : Int32} {a3 : Int32} {a4 : Int32} {a5 : Int32} {τ : (Int32 × mG)} (hJ : F_X12_feed a1 a2 a3 a4 a5 s = some τ) (hC : (fun τ => r = (some (.int τ.1), (SH, τ.2))) τ) : Rn N xs (d + 0) me203 0 [some (.ref 88), some (.int a1), some (.int a2), some (.int a3), some (.int a4), some (.int a5), none, none] [] (SH, s) r := by
  unfold F_X12_feed at hJ
  refine Rn_sq srt203 0 6 (pc' := (if ((s.1 88 15) + (c8 20)) ≤ (c16 400) then 15 else 13)) (ls' := [some (.ref 88), some (.int a1), some (.int a2), some (.int a3), some (.int a4), some (.int a5), none, none]) (st' := []) (h1 := (SH, s)) rfl (Rn_if (fun h1 => ?_) (fun h1 => ?_))
  · replace hJ := m_ifp h1 hJ
    refine Rn_sq srt203 8 2 (pc' := 18) (ls' := [some (.ref 88), some (.int a1), some (.int a2), some (.int a3), some (.int a4), some (.int a5), some (.int (ci 0)), none]) (st' := []) (h1 := (SH, s)) rfl ?_
    exact (k_X12_feed_L18 d hJ hC)
  · replace hJ := m_ifn h1 hJ
    refine Rn_sq srt203 6 1 (pc' := 14) (ls' := [some (.ref 88), some (.int a1), some (.int a2), some (.int a3), some (.int a4), some (.int a5), none, none]) (st' := [(.int (ci (-1)))]) (h1 := (SH, s)) rfl ?_
    rw [← Option.some.inj hJ] at hC
    have hC : r = (some (.int (ci (-1))), (SH, s)) := hC
    subst hC
    exact Rn_ret srt203 7 rfl rfl rfl
theorem k_X12_feed {N : Nat} {xs : Nat → Int32} (d : Nat) {s : mG} {a1 : Int32} {a2 : Int32} {a3 : Int32} {a4 : Int32} {a5 : Int32} {τ : (Int32 × mG)} (hJ : F_X12_feed a1 a2 a3 a4 a5 s = some τ) : Rn N xs (d + 0) me203 0 [some (.ref 88), some (.int a1), some (.int a2), some (.int a3), some (.int a4), some (.int a5), none, none] [] (SH, s) (some (.int τ.1), (SH, τ.2)) := k_X12_feed_r d hJ rfl
/-! IsHeInModel.end(I)Z -/
theorem srt204 : m_srt mc204 = true := by decide +kernel
def F_X12_end (a1 : Int32) (s : mG) : Option (Int32 × mG) :=
  b1 (F_X12_isIn s a1 (ci 0) (s.1 88 15)) fun v2 =>
  if v2 = 0 then
    some ((ci 0), s)
  else
    let s4 : mG := (mu s.1 88 15 a1, s.2)
    some ((ci 1), s4)
set_option maxRecDepth 4000 in
theorem k_X12_end_r {N : Nat} {xs : Nat → Int32} (d : Nat) {r : Option Value × mH} {s : mG} {a1 : Int32} {τ : (Int32 × mG)} (hJ : F_X12_end a1 s = some τ) (hC : (fun τ => r = (some (.int τ.1), (SH, τ.2))) τ) : Rn N xs (d + 1) me204 0 [some (.ref 88), some (.int a1)] [] (SH, s) r := by
  unfold F_X12_end at hJ
  refine Rn_sq srt204 0 4 (pc' := 6) (ls' := [some (.ref 88), some (.int a1)]) (st' := [(.int (s.1 88 15)), (.int (ci 0)), (.int a1)]) (h1 := (SH, s)) rfl ?_
  obtain ⟨v2, h1, hJ⟩ := m_b1 hJ
  refine Rn_call srt204 4 rfl rfl rfl ⟨Nat.le_of_ble_eq_true rfl, Nat.le_of_ble_eq_true rfl, rfl, Nat.le_of_ble_eq_true rfl⟩ (k_X12_isIn (d) h1) (show Rn N xs (d + 1) me204 9 [some (.ref 88), some (.int a1)] [(.int v2)] (SH, s) r from ?_)
  refine Rn_sq srt204 5 1 (pc' := (if v2 = 0 then 12 else 14)) (ls' := [some (.ref 88), some (.int a1)]) (st' := []) (h1 := (SH, s)) rfl (Rn_if (fun h3 => ?_) (fun h3 => ?_))
  · replace hJ := m_ifp h3 hJ
    refine Rn_sq srt204 6 1 (pc' := 13) (ls' := [some (.ref 88), some (.int a1)]) (st' := [(.int (ci 0))]) (h1 := (SH, s)) rfl ?_
    rw [← Option.some.inj hJ] at hC
    have hC : r = (some (.int (ci 0)), (SH, s)) := hC
    subst hC
    exact Rn_ret srt204 7 rfl rfl (m_ret_b rfl (by decide))
  · replace hJ := m_ifn h3 hJ
    extract_lets +onlyGivenNames s4 at hJ
    refine Rn_sq srt204 8 4 (pc' := 20) (ls' := [some (.ref 88), some (.int a1)]) (st' := [(.int (ci 1))]) (h1 := (SH, s4)) rfl ?_
    rw [← Option.some.inj hJ] at hC
    have hC : r = (some (.int (ci 1)), (SH, s4)) := hC
    subst hC
    exact Rn_ret srt204 12 rfl rfl (m_ret_b rfl (by decide))
theorem k_X12_end {N : Nat} {xs : Nat → Int32} (d : Nat) {s : mG} {a1 : Int32} {τ : (Int32 × mG)} (hJ : F_X12_end a1 s = some τ) : Rn N xs (d + 1) me204 0 [some (.ref 88), some (.int a1)] [] (SH, s) (some (.int τ.1), (SH, τ.2)) := k_X12_end_r d hJ rfl
/-! IsHeInModel.see(I)I -/
theorem srt205 : m_srt mc205 = true := by decide +kernel
def F_X12_see (s : mG) (a1 : Int32) : Option (Int32) :=
  if (s.1 88 15) ≤ a1 then
    some (ci (-1))
  else
    if a1 < 0 ∨ 400 ≤ a1.toNatClampNeg then none else
    some (s.1 95 a1.toNatClampNeg)
set_option maxRecDepth 4000 in
theorem k_X12_see_r {N : Nat} {xs : Nat → Int32} (d : Nat) {r : Option Value × mH} {s : mG} {a1 : Int32} {τ : (Int32)} (hJ : F_X12_see s a1 = some τ) (hC : (fun τ => r = (some (.int τ), (SH, s))) τ) : Rn N xs (d + 0) me205 0 [some (.ref 88), some (.int a1)] [] (SH, s) r := by
  unfold F_X12_see at hJ
  refine Rn_sq srt205 0 4 (pc' := (if (s.1 88 15) ≤ a1 then 17 else 8)) (ls' := [some (.ref 88), some (.int a1)]) (st' := []) (h1 := (SH, s)) rfl (Rn_if (fun h1 => ?_) (fun h1 => ?_))
  · replace hJ := m_ifp h1 hJ
    refine Rn_sq srt205 9 1 (pc' := 18) (ls' := [some (.ref 88), some (.int a1)]) (st' := [(.int (ci (-1)))]) (h1 := (SH, s)) rfl ?_
    rw [← Option.some.inj hJ] at hC
    have hC : r = (some (.int (ci (-1))), (SH, s)) := hC
    subst hC
    exact Rn_ret srt205 10 rfl rfl rfl
  · replace hJ := m_ifn h1 hJ
    refine Rn_sq srt205 4 3 (pc' := 13) (ls' := [some (.ref 88), some (.int a1)]) (st' := [(.int a1), (.ref 95)]) (h1 := (SH, s)) rfl ?_
    obtain ⟨h2, hJ⟩ := m_gn hJ
    refine Rn_ev srt205 7 rfl rfl rfl (op_ia sh95 h2 (k := a1.toNatClampNeg) rfl) ?_
    refine Rn_sq srt205 8 1 (pc' := 18) (ls' := [some (.ref 88), some (.int a1)]) (st' := [(.int (s.1 95 a1.toNatClampNeg))]) (h1 := (SH, s)) rfl ?_
    rw [← Option.some.inj hJ] at hC
    have hC : r = (some (.int (s.1 95 a1.toNatClampNeg)), (SH, s)) := hC
    subst hC
    exact Rn_ret srt205 10 rfl rfl rfl
theorem k_X12_see {N : Nat} {xs : Nat → Int32} (d : Nat) {s : mG} {a1 : Int32} {τ : (Int32)} (hJ : F_X12_see s a1 = some τ) : Rn N xs (d + 0) me205 0 [some (.ref 88), some (.int a1)] [] (SH, s) (some (.int τ), (SH, s)) := k_X12_see_r d hJ rfl
/-! IsHeInModel.isLetter(I)Z -/
theorem srt206 : m_srt mc206 = true := by decide +kernel
def F_X12_isLetter_22 (s : mG) : Option (Int32) :=
  some (ci 1)
set_option maxRecDepth 4000 in
theorem k_X12_isLetter_22 {N : Nat} {xs : Nat → Int32} (d : Nat) {r : Option Value × mH} {s : mG} {τ : (Int32)} (hJ : F_X12_isLetter_22 s = some τ) (hC : (fun τ => r = (some (.int τ), (SH, s))) τ) : Rn N xs (d + 1) me206 22 [none] [] (SH, s) r := by
  unfold F_X12_isLetter_22 at hJ
  refine Rn_sq srt206 10 2 (pc' := 27) (ls' := [none]) (st' := [(.int (ci 1))]) (h1 := (SH, s)) rfl ?_
  rw [← Option.some.inj hJ] at hC
  have hC : r = (some (.int (ci 1)), (SH, s)) := hC
  subst hC
  exact Rn_ret srt206 13 rfl rfl (m_ret_b rfl (by decide))
def F_X12_isLetter (s : mG) (a1 : Int32) : Option (Int32) :=
  b1 (F_X12_isIn s a1 (c8 97) (c8 122)) fun v2 =>
  if v2 = 0 then
    b1 (F_X12_isIn s a1 (c8 65) (c8 90)) fun v5 =>
    if v5 = 0 then
      some (ci 0)
    else
      F_X12_isLetter_22 s
  else
    F_X12_isLetter_22 s
set_option maxRecDepth 4000 in
theorem k_X12_isLetter_r {N : Nat} {xs : Nat → Int32} (d : Nat) {r : Option Value × mH} {s : mG} {a1 : Int32} {τ : (Int32)} (hJ : F_X12_isLetter s a1 = some τ) (hC : (fun τ => r = (some (.int τ), (SH, s))) τ) : Rn N xs (d + 1) me206 0 [some (.int a1)] [] (SH, s) r := by
  unfold F_X12_isLetter at hJ
  refine Rn_sq srt206 0 3 (pc' := 5) (ls' := [some (.int a1)]) (st' := [(.int (c8 122)), (.int (c8 97)), (.int a1)]) (h1 := (SH, s)) rfl ?_
  obtain ⟨v2, h1, hJ⟩ := m_b1 hJ
  refine Rn_call srt206 3 rfl rfl rfl ⟨Nat.le_of_ble_eq_true rfl, Nat.le_of_ble_eq_true rfl, rfl, Nat.le_of_ble_eq_true rfl⟩ (k_X12_isIn (d) h1) (show Rn N xs (d + 1) me206 8 [some (.int a1)] [(.int v2)] (SH, s) r from ?_)
  refine Rn_sq srt206 4 1 (pc' := (if v2 = 0 then 11 else 22)) (ls' := [some (.int a1)]) (st' := []) (h1 := (SH, s)) rfl (Rn_if (fun h3 => ?_) (fun h3 => ?_))
  · replace hJ := m_ifp h3 hJ
    refine Rn_sq srt206 5 3 (pc' := 16) (ls' := [some (.int a1)]) (st' := [(.int (c8 90)), (.int (c8 65)), (.int a1)]) (h1 := (SH, s)) rfl ?_
    obtain ⟨v5, h4, hJ⟩ := m_b1 hJ
    refine Rn_call srt206 8 rfl rfl rfl ⟨Nat.le_of_ble_eq_true rfl, Nat.le_of_ble_eq_true rfl, rfl, Nat.le_of_ble_eq_true rfl⟩ (k_X12_isIn (d) h4) (show Rn N xs (d + 1) me206 19 [some (.int a1)] [(.int v5)] (SH, s) r from ?_)
    refine Rn_sq srt206 9 1 (pc' := (if v5 = 0 then 26 else 22)) (ls' := [some (.int a1)]) (st' := []) (h1 := (SH, s)) rfl (Rn_if (fun h6 => ?_) (fun h6 => ?_))
    · replace hJ := m_ifp h6 hJ
      refine Rn_sq srt206 12 1 (pc' := 27) (ls' := [some (.int a1)]) (st' := [(.int (ci 0))]) (h1 := (SH, s)) rfl ?_
      rw [← Option.some.inj hJ] at hC
      have hC : r = (some (.int (ci 0)), (SH, s)) := hC
      subst hC
      exact Rn_ret srt206 13 rfl rfl (m_ret_b rfl (by decide))
    · replace hJ := m_ifn h6 hJ
      exact Rn_weaken (a := [none]) (b := [some (.int a1)]) trivial rfl (k_X12_isLetter_22 d hJ hC)
  · replace hJ := m_ifn h3 hJ
    exact Rn_weaken (a := [none]) (b := [some (.int a1)]) trivial rfl (k_X12_isLetter_22 d hJ hC)
theorem k_X12_isLetter {N : Nat} {xs : Nat → Int32} (d : Nat) {s : mG} {a1 : Int32} {τ : (Int32)} (hJ : F_X12_isLetter s a1 = some τ) : Rn N xs (d + 1) me206 0 [some (.int a1)] [] (SH, s) (some (.int τ), (SH, s)) := k_X12_isLetter_r d hJ rfl
/-! IsHeInModel.isDigit(I)Z -/
theorem srt207 : m_srt mc207 = true := by decide +kernel
def F_X12_isDigit (s : mG) (a1 : Int32) : Option (Int32) :=
  b1 (F_X12_isIn s a1 (c8 48) (c8 57)) fun v2 =>
  if v2 = 0 ∨ v2 = 1 then
    some v2
  else none
set_option maxRecDepth 4000 in
theorem k_X12_isDigit_r {N : Nat} {xs : Nat → Int32} (d : Nat) {r : Option Value × mH} {s : mG} {a1 : Int32} {τ : (Int32)} (hJ : F_X12_isDigit s a1 = some τ) (hC : (fun τ => r = (some (.int τ), (SH, s))) τ) : Rn N xs (d + 1) me207 0 [some (.int a1)] [] (SH, s) r := by
  unfold F_X12_isDigit at hJ
  refine Rn_sq srt207 0 3 (pc' := 5) (ls' := [some (.int a1)]) (st' := [(.int (c8 57)), (.int (c8 48)), (.int a1)]) (h1 := (SH, s)) rfl ?_
  obtain ⟨v2, h1, hJ⟩ := m_b1 hJ
  refine Rn_call srt207 3 rfl rfl rfl ⟨Nat.le_of_ble_eq_true rfl, Nat.le_of_ble_eq_true rfl, rfl, Nat.le_of_ble_eq_true rfl⟩ (k_X12_isIn (d) h1) (show Rn N xs (d + 1) me207 8 [some (.int a1)] [(.int v2)] (SH, s) r from ?_)
  obtain ⟨h3, hJ⟩ := m_gp hJ
  rw [← Option.some.inj hJ] at hC
  have hC : r = (some (.int v2), (SH, s)) := hC
  subst hC
  exact Rn_ret srt207 4 rfl rfl (m_ret_b rfl h3)
theorem k_X12_isDigit {N : Nat} {xs : Nat → Int32} (d : Nat) {s : mG} {a1 : Int32} {τ : (Int32)} (hJ : F_X12_isDigit s a1 = some τ) : Rn N xs (d + 1) me207 0 [some (.int a1)] [] (SH, s) (some (.int τ), (SH, s)) := k_X12_isDigit_r d hJ rfl
/-! IsHeInModel.is(Ljava/lang/String;)Z -/
theorem srt208 : m_srt mc208 = true := by decide +kernel
def C_X12_is_24 (N : Nat) (xs : Nat → Int32) (a1 : Nat) (s : mG) (d : Nat) (r : Option Value × mH) (C : (Int32) → Prop) : ((Int32 × Int32) ⊕ (Int32)) → Prop
  | .inl v => Rn N xs (d + 4) me208 24 [some (.ref 88), some (.ref a1), some (.int v.1), some (.int v.2)] [] (SH, s) r
  | .inr a => C a
def F_X12_is_67 (a1 : Nat) (s : mG) (x2 : Int32) : Option (Int32) :=
  if x2 = 0 ∨ x2 = 1 then
    some x2
  else none
set_option maxRecDepth 4000 in
theorem k_X12_is_67 {N : Nat} {xs : Nat → Int32} (a1 : Nat) (d : Nat) (h_a1 : 1000100 ≤ a1 ∧ a1 < 1000127) {r : Option Value × mH} {s : mG} {x2 : Int32} {τ : (Int32)} (hJ : F_X12_is_67 a1 s x2 = some τ) (hC : (fun τ => r = (some (.int τ), (SH, s))) τ) : Rn N xs (d + 4) me208 67 [none, none, some (.int x2), none] [] (SH, s) r := by
  unfold F_X12_is_67 at hJ
  refine Rn_sq srt208 37 1 (pc' := 68) (ls' := [none, none, some (.int x2), none]) (st' := [(.int x2)]) (h1 := (SH, s)) rfl ?_
  obtain ⟨h7, hJ⟩ := m_gp hJ
  rw [← Option.some.inj hJ] at hC
  have hC : r = (some (.int x2), (SH, s)) := hC
  subst hC
  exact Rn_ret srt208 38 rfl rfl (m_ret_b rfl h7)
def F_X12_is_60 (a1 : Nat) (s : mG) (x3 : Int32) (y0 : Int32) : Option ((Int32 × Int32) ⊕ (Int32)) :=
  some (Sum.inl (y0, (x3 + ci 1)))
set_option maxRecDepth 4000 in
theorem k_X12_is_60 {N : Nat} {xs : Nat → Int32} (a1 : Nat) (d : Nat) (h_a1 : 1000100 ≤ a1 ∧ a1 < 1000127) {r : Option Value × mH} {s : mG} {x3 : Int32} {y0 : Int32} {τ : ((Int32 × Int32) ⊕ (Int32))} (hJ : F_X12_is_60 a1 s x3 y0 = some τ) (hC : (C_X12_is_24 N xs a1 s d r (fun τ => r = (some (.int τ), (SH, s)))) τ) : Rn N xs (d + 4) me208 60 [some (.ref 88), some (.ref a1), none, some (.int x3)] [(.int y0)] (SH, s) r := by
  unfold F_X12_is_60 at hJ
  refine Rn_sq srt208 34 3 (pc' := 24) (ls' := [some (.ref 88), some (.ref a1), some (.int y0), some (.int (x3 + ci 1))]) (st' := []) (h1 := (SH, s)) rfl ?_
  rw [← Option.some.inj hJ] at hC
  exact hC
def F_X12_is_B24 (a1 : Nat) (s : mG) (x2 : Int32) (x3 : Int32) : Option ((Int32 × Int32) ⊕ (Int32)) :=
  b1 (F_J0_length_8abf5 a1 s) fun v5 =>
  if v5 ≤ x3 then
    b1 (F_X12_is_67 a1 s x2) fun τ => some (Sum.inr τ)
  else
    if x2 = 0 then
      b1 (F_X12_is_67 a1 s x2) fun τ => some (Sum.inr τ)
    else
      if ((s.1 88 18) + x3) < 0 ∨ 400 ≤ ((s.1 88 18) + x3).toNatClampNeg then none else
      b1 (F_J0_charAt_5068e a1 s x3) fun v11 =>
      if (s.1 95 ((s.1 88 18) + x3).toNatClampNeg) = v11 then
        F_X12_is_60 a1 s x3 (ci 1)
      else
        F_X12_is_60 a1 s x3 (ci 0)
set_option maxRecDepth 4000 in
theorem k_X12_is_B24 {N : Nat} {xs : Nat → Int32} (a1 : Nat) (d : Nat) (h_a1 : 1000100 ≤ a1 ∧ a1 < 1000127) {r : Option Value × mH} {s : mG} {x2 : Int32} {x3 : Int32} {τ : ((Int32 × Int32) ⊕ (Int32))} (hJ : F_X12_is_B24 a1 s x2 x3 = some τ) (hC : (C_X12_is_24 N xs a1 s d r (fun τ => r = (some (.int τ), (SH, s)))) τ) : Rn N xs (d + 4) me208 24 [some (.ref 88), some (.ref a1), some (.int x2), some (.int x3)] [] (SH, s) r := by
  unfold F_X12_is_B24 at hJ
  refine Rn_sq srt208 14 2 (pc' := 26) (ls' := [some (.ref 88), some (.ref a1), some (.int x2), some (.int x3)]) (st' := [(.ref a1), (.int x3)]) (h1 := (SH, s)) rfl ?_
  obtain ⟨v5, h4, hJ⟩ := m_b1 hJ
  refine Rn_call srt208 16 rfl rfl rfl ⟨Nat.le_of_ble_eq_true rfl, Nat.le_of_ble_eq_true rfl, (recv_s h_a1), Nat.le_of_ble_eq_true rfl⟩ (k_J0_length_8abf5 a1 (d + 2) h_a1 h4) (show Rn N xs (d + 4) me208 29 [some (.ref 88), some (.ref a1), some (.int x2), some (.int x3)] [(.int v5), (.int x3)] (SH, s) r from ?_)
  refine Rn_sq srt208 17 1 (pc' := (if v5 ≤ x3 then 67 else 32)) (ls' := [some (.ref 88), some (.ref a1), some (.int x2), some (.int x3)]) (st' := []) (h1 := (SH, s)) rfl (Rn_if (fun h6 => ?_) (fun h6 => ?_))
  · replace hJ := m_ifp h6 hJ
    obtain ⟨τ1, hJ1, hJ⟩ := m_b1 hJ
    rw [← Option.some.inj hJ] at hC
    exact Rn_weaken (a := [none, none, some (.int x2), none]) (b := [some (.ref 88), some (.ref a1), some (.int x2), some (.int x3)]) (And.intro rfl trivial) rfl (k_X12_is_67 a1 d h_a1 hJ1 hC)
  · replace hJ := m_ifn h6 hJ
    refine Rn_sq srt208 18 2 (pc' := (if x2 = 0 then 67 else 36)) (ls' := [some (.ref 88), some (.ref a1), some (.int x2), some (.int x3)]) (st' := []) (h1 := (SH, s)) rfl (Rn_if (fun h8 => ?_) (fun h8 => ?_))
    · replace hJ := m_ifp h8 hJ
      obtain ⟨τ1, hJ1, hJ⟩ := m_b1 hJ
      rw [← Option.some.inj hJ] at hC
      exact Rn_weaken (a := [none, none, some (.int x2), none]) (b := [some (.ref 88), some (.ref a1), some (.int x2), some (.int x3)]) (And.intro rfl trivial) rfl (k_X12_is_67 a1 d h_a1 hJ1 hC)
    · replace hJ := m_ifn h8 hJ
      refine Rn_sq srt208 20 6 (pc' := 46) (ls' := [some (.ref 88), some (.ref a1), some (.int x2), some (.int x3)]) (st' := [(.int ((s.1 88 18) + x3)), (.ref 95)]) (h1 := (SH, s)) rfl ?_
      obtain ⟨h9, hJ⟩ := m_gn hJ
      refine Rn_ev srt208 26 rfl rfl rfl (op_ia sh95 h9 (k := ((s.1 88 18) + x3).toNatClampNeg) rfl) ?_
      refine Rn_sq srt208 27 2 (pc' := 49) (ls' := [some (.ref 88), some (.ref a1), some (.int x2), some (.int x3)]) (st' := [(.int x3), (.ref a1), (.int (s.1 95 ((s.1 88 18) + x3).toNatClampNeg))]) (h1 := (SH, s)) rfl ?_
      obtain ⟨v11, h10, hJ⟩ := m_b1 hJ
      refine Rn_call srt208 29 rfl rfl rfl ⟨Nat.le_of_ble_eq_true rfl, Nat.le_of_ble_eq_true rfl, (recv_s h_a1), Nat.le_of_ble_eq_true rfl⟩ (k_J0_charAt_5068e a1 (d) h_a1 h10) (show Rn N xs (d + 4) me208 52 [some (.ref 88), some (.ref a1), some (.int x2), some (.int x3)] [(.int v11), (.int (s.1 95 ((s.1 88 18) + x3).toNatClampNeg))] (SH, s) r from ?_)
      refine Rn_sq srt208 30 1 (pc' := (if (s.1 95 ((s.1 88 18) + x3).toNatClampNeg) = v11 then 55 else 59)) (ls' := [some (.ref 88), some (.ref a1), some (.int x2), some (.int x3)]) (st' := []) (h1 := (SH, s)) rfl (Rn_if (fun h12 => ?_) (fun h12 => ?_))
      · replace hJ := m_ifp h12 hJ
        refine Rn_sq srt208 31 2 (pc' := 60) (ls' := [some (.ref 88), some (.ref a1), some (.int x2), some (.int x3)]) (st' := [(.int (ci 1))]) (h1 := (SH, s)) rfl ?_
        exact Rn_weaken (a := [some (.ref 88), some (.ref a1), none, some (.int x3)]) (b := [some (.ref 88), some (.ref a1), some (.int x2), some (.int x3)]) (And.intro rfl (And.intro rfl (And.intro rfl trivial))) rfl (k_X12_is_60 a1 d h_a1 hJ hC)
      · replace hJ := m_ifn h12 hJ
        refine Rn_sq srt208 33 1 (pc' := 60) (ls' := [some (.ref 88), some (.ref a1), some (.int x2), some (.int x3)]) (st' := [(.int (ci 0))]) (h1 := (SH, s)) rfl ?_
        exact Rn_weaken (a := [some (.ref 88), some (.ref a1), none, some (.int x3)]) (b := [some (.ref 88), some (.ref a1), some (.int x2), some (.int x3)]) (And.intro rfl (And.intro rfl (And.intro rfl trivial))) rfl (k_X12_is_60 a1 d h_a1 hJ hC)
def F_X12_is_L24 (a1 : Nat) (s : mG) (x2 : Int32) (x3 : Int32) : Option (Int32) := whl (fun (v : (Int32 × Int32)) => F_X12_is_B24 a1 s v.1 v.2) (x2, x3)
theorem k_X12_is_L24 {N : Nat} {xs : Nat → Int32} (a1 : Nat) (d : Nat) (h_a1 : 1000100 ≤ a1 ∧ a1 < 1000127) {r : Option Value × mH} {s : mG} {x2 : Int32} {x3 : Int32} {τ : (Int32)} (hJ : F_X12_is_L24 a1 s x2 x3 = some τ) (hC : (fun τ => r = (some (.int τ), (SH, s))) τ) : Rn N xs (d + 4) me208 24 [some (.ref 88), some (.ref a1), some (.int x2), some (.int x3)] [] (SH, s) r :=
  whl_link (P := fun (v : (Int32 × Int32)) => Rn N xs (d + 4) me208 24 [some (.ref 88), some (.ref a1), some (.int v.1), some (.int v.2)] [] (SH, s) r) (C := (C_X12_is_24 N xs a1 s d r (fun τ => r = (some (.int τ), (SH, s))))) (fun v τ h1 h2 => k_X12_is_B24 a1 d h_a1 h1 h2) (fun _ h => h) (fun _ h => h) _ _ hJ hC
def F_X12_is_21 (a1 : Nat) (s : mG) (y0 : Int32) : Option (Int32) :=
  F_X12_is_L24 a1 s y0 (ci 0)
set_option maxRecDepth 4000 in
theorem k_X12_is_21 {N : Nat} {xs : Nat → Int32} (a1 : Nat) (d : Nat) (h_a1 : 1000100 ≤ a1 ∧ a1 < 1000127) {r : Option Value × mH} {s : mG} {y0 : Int32} {τ : (Int32)} (hJ : F_X12_is_21 a1 s y0 = some τ) (hC : (fun τ => r = (some (.int τ), (SH, s))) τ) : Rn N xs (d + 4) me208 21 [some (.ref 88), some (.ref a1), none, none] [(.int y0)] (SH, s) r := by
  unfold F_X12_is_21 at hJ
  refine Rn_sq srt208 11 3 (pc' := 24) (ls' := [some (.ref 88), some (.ref a1), some (.int y0), some (.int (ci 0))]) (st' := []) (h1 := (SH, s)) rfl ?_
  exact (k_X12_is_L24 a1 d h_a1 hJ hC)
def F_X12_is (a1 : Nat) (s : mG) : Option (Int32) :=
  b1 (F_J0_length_8abf5 a1 s) fun v2 =>
  if ((s.1 88 16) - (s.1 88 18)) = v2 then
    F_X12_is_21 a1 s (ci 1)
  else
    F_X12_is_21 a1 s (ci 0)
set_option maxRecDepth 4000 in
theorem k_X12_is_r {N : Nat} {xs : Nat → Int32} (a1 : Nat) (d : Nat) (h_a1 : 1000100 ≤ a1 ∧ a1 < 1000127) {r : Option Value × mH} {s : mG} {τ : (Int32)} (hJ : F_X12_is a1 s = some τ) (hC : (fun τ => r = (some (.int τ), (SH, s))) τ) : Rn N xs (d + 4) me208 0 [some (.ref 88), some (.ref a1), none, none] [] (SH, s) r := by
  unfold F_X12_is at hJ
  refine Rn_sq srt208 0 6 (pc' := 10) (ls' := [some (.ref 88), some (.ref a1), none, none]) (st' := [(.ref a1), (.int ((s.1 88 16) - (s.1 88 18)))]) (h1 := (SH, s)) rfl ?_
  obtain ⟨v2, h1, hJ⟩ := m_b1 hJ
  refine Rn_call srt208 6 rfl rfl rfl ⟨Nat.le_of_ble_eq_true rfl, Nat.le_of_ble_eq_true rfl, (recv_s h_a1), Nat.le_of_ble_eq_true rfl⟩ (k_J0_length_8abf5 a1 (d + 2) h_a1 h1) (show Rn N xs (d + 4) me208 13 [some (.ref 88), some (.ref a1), none, none] [(.int v2), (.int ((s.1 88 16) - (s.1 88 18)))] (SH, s) r from ?_)
  refine Rn_sq srt208 7 1 (pc' := (if ((s.1 88 16) - (s.1 88 18)) = v2 then 16 else 20)) (ls' := [some (.ref 88), some (.ref a1), none, none]) (st' := []) (h1 := (SH, s)) rfl (Rn_if (fun h3 => ?_) (fun h3 => ?_))
  · replace hJ := m_ifp h3 hJ
    refine Rn_sq srt208 8 2 (pc' := 21) (ls' := [some (.ref 88), some (.ref a1), none, none]) (st' := [(.int (ci 1))]) (h1 := (SH, s)) rfl ?_
    exact (k_X12_is_21 a1 d h_a1 hJ hC)
  · replace hJ := m_ifn h3 hJ
    refine Rn_sq srt208 10 1 (pc' := 21) (ls' := [some (.ref 88), some (.ref a1), none, none]) (st' := [(.int (ci 0))]) (h1 := (SH, s)) rfl ?_
    exact (k_X12_is_21 a1 d h_a1 hJ hC)
theorem k_X12_is {N : Nat} {xs : Nat → Int32} (a1 : Nat) (d : Nat) (h_a1 : 1000100 ≤ a1 ∧ a1 < 1000127) {s : mG} {τ : (Int32)} (hJ : F_X12_is a1 s = some τ) : Rn N xs (d + 4) me208 0 [some (.ref 88), some (.ref a1), none, none] [] (SH, s) (some (.int τ), (SH, s)) := k_X12_is_r a1 d h_a1 hJ rfl
/-! IsHeInModel.wordOfLaw()I -/
theorem srt209 : m_srt mc209 = true := by decide +kernel
def F_X12_wordOfLaw (s : mG) : Option (Int32) :=
  b1 (F_X12_is 1000114 s) fun v2 =>
  if v2 = 0 then
    b1 (F_X12_is 1000115 s) fun v5 =>
    if v5 = 0 then
      b1 (F_X12_is 1000116 s) fun v8 =>
      if v8 = 0 then
        b1 (F_X12_is 1000117 s) fun v11 =>
        if v11 = 0 then
          b1 (F_X12_is 1000118 s) fun v14 =>
          if v14 = 0 then
            b1 (F_X12_is 1000119 s) fun v17 =>
            if v17 = 0 then
              some (ci 1)
            else
              some (c8 25)
          else
            some (c8 24)
        else
          some (c8 23)
      else
        some (c8 22)
    else
      some (c8 21)
  else
    some (c8 20)
set_option maxRecDepth 4000 in
theorem k_X12_wordOfLaw_r {N : Nat} {xs : Nat → Int32} (d : Nat) {r : Option Value × mH} {s : mG} {τ : (Int32)} (hJ : F_X12_wordOfLaw s = some τ) (hC : (fun τ => r = (some (.int τ), (SH, s))) τ) : Rn N xs (d + 5) me209 0 [some (.ref 88)] [] (SH, s) r := by
  unfold F_X12_wordOfLaw at hJ
  refine Rn_sq srt209 0 2 (pc' := 3) (ls' := [some (.ref 88)]) (st' := [(.ref 1000114), (.ref 88)]) (h1 := (SH, s)) rfl ?_
  obtain ⟨v2, h1, hJ⟩ := m_b1 hJ
  refine Rn_call srt209 2 rfl rfl rfl ⟨Nat.le_of_ble_eq_true rfl, Nat.le_of_ble_eq_true rfl, rfl, Nat.le_of_ble_eq_true rfl⟩ (k_X12_is 1000114 (d) (by decide) h1) (show Rn N xs (d + 5) me209 6 [some (.ref 88)] [(.int v2)] (SH, s) r from ?_)
  refine Rn_sq srt209 3 1 (pc' := (if v2 = 0 then 12 else 9)) (ls' := [some (.ref 88)]) (st' := []) (h1 := (SH, s)) rfl (Rn_if (fun h3 => ?_) (fun h3 => ?_))
  · replace hJ := m_ifp h3 hJ
    refine Rn_sq srt209 6 2 (pc' := 15) (ls' := [some (.ref 88)]) (st' := [(.ref 1000115), (.ref 88)]) (h1 := (SH, s)) rfl ?_
    obtain ⟨v5, h4, hJ⟩ := m_b1 hJ
    refine Rn_call srt209 8 rfl rfl rfl ⟨Nat.le_of_ble_eq_true rfl, Nat.le_of_ble_eq_true rfl, rfl, Nat.le_of_ble_eq_true rfl⟩ (k_X12_is 1000115 (d) (by decide) h4) (show Rn N xs (d + 5) me209 18 [some (.ref 88)] [(.int v5)] (SH, s) r from ?_)
    refine Rn_sq srt209 9 1 (pc' := (if v5 = 0 then 24 else 21)) (ls' := [some (.ref 88)]) (st' := []) (h1 := (SH, s)) rfl (Rn_if (fun h6 => ?_) (fun h6 => ?_))
    · replace hJ := m_ifp h6 hJ
      refine Rn_sq srt209 12 2 (pc' := 27) (ls' := [some (.ref 88)]) (st' := [(.ref 1000116), (.ref 88)]) (h1 := (SH, s)) rfl ?_
      obtain ⟨v8, h7, hJ⟩ := m_b1 hJ
      refine Rn_call srt209 14 rfl rfl rfl ⟨Nat.le_of_ble_eq_true rfl, Nat.le_of_ble_eq_true rfl, rfl, Nat.le_of_ble_eq_true rfl⟩ (k_X12_is 1000116 (d) (by decide) h7) (show Rn N xs (d + 5) me209 30 [some (.ref 88)] [(.int v8)] (SH, s) r from ?_)
      refine Rn_sq srt209 15 1 (pc' := (if v8 = 0 then 36 else 33)) (ls' := [some (.ref 88)]) (st' := []) (h1 := (SH, s)) rfl (Rn_if (fun h9 => ?_) (fun h9 => ?_))
      · replace hJ := m_ifp h9 hJ
        refine Rn_sq srt209 18 2 (pc' := 39) (ls' := [some (.ref 88)]) (st' := [(.ref 1000117), (.ref 88)]) (h1 := (SH, s)) rfl ?_
        obtain ⟨v11, h10, hJ⟩ := m_b1 hJ
        refine Rn_call srt209 20 rfl rfl rfl ⟨Nat.le_of_ble_eq_true rfl, Nat.le_of_ble_eq_true rfl, rfl, Nat.le_of_ble_eq_true rfl⟩ (k_X12_is 1000117 (d) (by decide) h10) (show Rn N xs (d + 5) me209 42 [some (.ref 88)] [(.int v11)] (SH, s) r from ?_)
        refine Rn_sq srt209 21 1 (pc' := (if v11 = 0 then 48 else 45)) (ls' := [some (.ref 88)]) (st' := []) (h1 := (SH, s)) rfl (Rn_if (fun h12 => ?_) (fun h12 => ?_))
        · replace hJ := m_ifp h12 hJ
          refine Rn_sq srt209 24 2 (pc' := 51) (ls' := [some (.ref 88)]) (st' := [(.ref 1000118), (.ref 88)]) (h1 := (SH, s)) rfl ?_
          obtain ⟨v14, h13, hJ⟩ := m_b1 hJ
          refine Rn_call srt209 26 rfl rfl rfl ⟨Nat.le_of_ble_eq_true rfl, Nat.le_of_ble_eq_true rfl, rfl, Nat.le_of_ble_eq_true rfl⟩ (k_X12_is 1000118 (d) (by decide) h13) (show Rn N xs (d + 5) me209 54 [some (.ref 88)] [(.int v14)] (SH, s) r from ?_)
          refine Rn_sq srt209 27 1 (pc' := (if v14 = 0 then 60 else 57)) (ls' := [some (.ref 88)]) (st' := []) (h1 := (SH, s)) rfl (Rn_if (fun h15 => ?_) (fun h15 => ?_))
          · replace hJ := m_ifp h15 hJ
            refine Rn_sq srt209 30 2 (pc' := 63) (ls' := [some (.ref 88)]) (st' := [(.ref 1000119), (.ref 88)]) (h1 := (SH, s)) rfl ?_
            obtain ⟨v17, h16, hJ⟩ := m_b1 hJ
            refine Rn_call srt209 32 rfl rfl rfl ⟨Nat.le_of_ble_eq_true rfl, Nat.le_of_ble_eq_true rfl, rfl, Nat.le_of_ble_eq_true rfl⟩ (k_X12_is 1000119 (d) (by decide) h16) (show Rn N xs (d + 5) me209 66 [some (.ref 88)] [(.int v17)] (SH, s) r from ?_)
            refine Rn_sq srt209 33 1 (pc' := (if v17 = 0 then 74 else 69)) (ls' := [some (.ref 88)]) (st' := []) (h1 := (SH, s)) rfl (Rn_if (fun h18 => ?_) (fun h18 => ?_))
            · replace hJ := m_ifp h18 hJ
              refine Rn_sq srt209 36 1 (pc' := 75) (ls' := [some (.ref 88)]) (st' := [(.int (ci 1))]) (h1 := (SH, s)) rfl ?_
              rw [← Option.some.inj hJ] at hC
              have hC : r = (some (.int (ci 1)), (SH, s)) := hC
              subst hC
              exact Rn_ret srt209 37 rfl rfl rfl
            · replace hJ := m_ifn h18 hJ
              refine Rn_sq srt209 34 2 (pc' := 75) (ls' := [some (.ref 88)]) (st' := [(.int (c8 25))]) (h1 := (SH, s)) rfl ?_
              rw [← Option.some.inj hJ] at hC
              have hC : r = (some (.int (c8 25)), (SH, s)) := hC
              subst hC
              exact Rn_ret srt209 37 rfl rfl rfl
          · replace hJ := m_ifn h15 hJ
            refine Rn_sq srt209 28 1 (pc' := 59) (ls' := [some (.ref 88)]) (st' := [(.int (c8 24))]) (h1 := (SH, s)) rfl ?_
            rw [← Option.some.inj hJ] at hC
            have hC : r = (some (.int (c8 24)), (SH, s)) := hC
            subst hC
            exact Rn_ret srt209 29 rfl rfl rfl
        · replace hJ := m_ifn h12 hJ
          refine Rn_sq srt209 22 1 (pc' := 47) (ls' := [some (.ref 88)]) (st' := [(.int (c8 23))]) (h1 := (SH, s)) rfl ?_
          rw [← Option.some.inj hJ] at hC
          have hC : r = (some (.int (c8 23)), (SH, s)) := hC
          subst hC
          exact Rn_ret srt209 23 rfl rfl rfl
      · replace hJ := m_ifn h9 hJ
        refine Rn_sq srt209 16 1 (pc' := 35) (ls' := [some (.ref 88)]) (st' := [(.int (c8 22))]) (h1 := (SH, s)) rfl ?_
        rw [← Option.some.inj hJ] at hC
        have hC : r = (some (.int (c8 22)), (SH, s)) := hC
        subst hC
        exact Rn_ret srt209 17 rfl rfl rfl
    · replace hJ := m_ifn h6 hJ
      refine Rn_sq srt209 10 1 (pc' := 23) (ls' := [some (.ref 88)]) (st' := [(.int (c8 21))]) (h1 := (SH, s)) rfl ?_
      rw [← Option.some.inj hJ] at hC
      have hC : r = (some (.int (c8 21)), (SH, s)) := hC
      subst hC
      exact Rn_ret srt209 11 rfl rfl rfl
  · replace hJ := m_ifn h3 hJ
    refine Rn_sq srt209 4 1 (pc' := 11) (ls' := [some (.ref 88)]) (st' := [(.int (c8 20))]) (h1 := (SH, s)) rfl ?_
    rw [← Option.some.inj hJ] at hC
    have hC : r = (some (.int (c8 20)), (SH, s)) := hC
    subst hC
    exact Rn_ret srt209 5 rfl rfl rfl
theorem k_X12_wordOfLaw {N : Nat} {xs : Nat → Int32} (d : Nat) {s : mG} {τ : (Int32)} (hJ : F_X12_wordOfLaw s = some τ) : Rn N xs (d + 5) me209 0 [some (.ref 88)] [] (SH, s) (some (.int τ), (SH, s)) := k_X12_wordOfLaw_r d hJ rfl
/-! IsHeInModel.asked()I -/
theorem srt210 : m_srt mc210 = true := by decide +kernel
def F_X12_asked (s : mG) : Option (Int32) :=
  b1 (F_X12_is 1000105 s) fun v2 =>
  if v2 = 0 then
    b1 (F_X12_is 1000106 s) fun v5 =>
    if v5 = 0 then
      b1 (F_X12_is 1000107 s) fun v8 =>
      if v8 = 0 then
        b1 (F_X12_is 1000108 s) fun v11 =>
        if v11 = 0 then
          b1 (F_X12_is 1000109 s) fun v14 =>
          if v14 = 0 then
            b1 (F_X12_is 1000110 s) fun v17 =>
            if v17 = 0 then
              b1 (F_X12_is 1000111 s) fun v20 =>
              if v20 = 0 then
                b1 (F_X12_is 1000112 s) fun v23 =>
                if v23 = 0 then
                  b1 (F_X12_is 1000113 s) fun v26 =>
                  if v26 = 0 then
                    b1 (F_X12_wordOfLaw s) fun v29 =>
                    some v29
                  else
                    some (c8 49)
                else
                  some (c8 48)
              else
                some (c8 47)
            else
              some (c8 46)
          else
            some (c8 45)
        else
          some (c8 44)
      else
        some (c8 43)
    else
      some (c8 42)
  else
    some (c8 41)
set_option maxRecDepth 4000 in
theorem k_X12_asked_r {N : Nat} {xs : Nat → Int32} (d : Nat) {r : Option Value × mH} {s : mG} {τ : (Int32)} (hJ : F_X12_asked s = some τ) (hC : (fun τ => r = (some (.int τ), (SH, s))) τ) : Rn N xs (d + 6) me210 0 [some (.ref 88)] [] (SH, s) r := by
  unfold F_X12_asked at hJ
  refine Rn_sq srt210 0 2 (pc' := 3) (ls' := [some (.ref 88)]) (st' := [(.ref 1000105), (.ref 88)]) (h1 := (SH, s)) rfl ?_
  obtain ⟨v2, h1, hJ⟩ := m_b1 hJ
  refine Rn_call srt210 2 rfl rfl rfl ⟨Nat.le_of_ble_eq_true rfl, Nat.le_of_ble_eq_true rfl, rfl, Nat.le_of_ble_eq_true rfl⟩ (k_X12_is 1000105 (d + 1) (by decide) h1) (show Rn N xs (d + 6) me210 6 [some (.ref 88)] [(.int v2)] (SH, s) r from ?_)
  refine Rn_sq srt210 3 1 (pc' := (if v2 = 0 then 12 else 9)) (ls' := [some (.ref 88)]) (st' := []) (h1 := (SH, s)) rfl (Rn_if (fun h3 => ?_) (fun h3 => ?_))
  · replace hJ := m_ifp h3 hJ
    refine Rn_sq srt210 6 2 (pc' := 15) (ls' := [some (.ref 88)]) (st' := [(.ref 1000106), (.ref 88)]) (h1 := (SH, s)) rfl ?_
    obtain ⟨v5, h4, hJ⟩ := m_b1 hJ
    refine Rn_call srt210 8 rfl rfl rfl ⟨Nat.le_of_ble_eq_true rfl, Nat.le_of_ble_eq_true rfl, rfl, Nat.le_of_ble_eq_true rfl⟩ (k_X12_is 1000106 (d + 1) (by decide) h4) (show Rn N xs (d + 6) me210 18 [some (.ref 88)] [(.int v5)] (SH, s) r from ?_)
    refine Rn_sq srt210 9 1 (pc' := (if v5 = 0 then 24 else 21)) (ls' := [some (.ref 88)]) (st' := []) (h1 := (SH, s)) rfl (Rn_if (fun h6 => ?_) (fun h6 => ?_))
    · replace hJ := m_ifp h6 hJ
      refine Rn_sq srt210 12 2 (pc' := 27) (ls' := [some (.ref 88)]) (st' := [(.ref 1000107), (.ref 88)]) (h1 := (SH, s)) rfl ?_
      obtain ⟨v8, h7, hJ⟩ := m_b1 hJ
      refine Rn_call srt210 14 rfl rfl rfl ⟨Nat.le_of_ble_eq_true rfl, Nat.le_of_ble_eq_true rfl, rfl, Nat.le_of_ble_eq_true rfl⟩ (k_X12_is 1000107 (d + 1) (by decide) h7) (show Rn N xs (d + 6) me210 30 [some (.ref 88)] [(.int v8)] (SH, s) r from ?_)
      refine Rn_sq srt210 15 1 (pc' := (if v8 = 0 then 36 else 33)) (ls' := [some (.ref 88)]) (st' := []) (h1 := (SH, s)) rfl (Rn_if (fun h9 => ?_) (fun h9 => ?_))
      · replace hJ := m_ifp h9 hJ
        refine Rn_sq srt210 18 2 (pc' := 39) (ls' := [some (.ref 88)]) (st' := [(.ref 1000108), (.ref 88)]) (h1 := (SH, s)) rfl ?_
        obtain ⟨v11, h10, hJ⟩ := m_b1 hJ
        refine Rn_call srt210 20 rfl rfl rfl ⟨Nat.le_of_ble_eq_true rfl, Nat.le_of_ble_eq_true rfl, rfl, Nat.le_of_ble_eq_true rfl⟩ (k_X12_is 1000108 (d + 1) (by decide) h10) (show Rn N xs (d + 6) me210 42 [some (.ref 88)] [(.int v11)] (SH, s) r from ?_)
        refine Rn_sq srt210 21 1 (pc' := (if v11 = 0 then 48 else 45)) (ls' := [some (.ref 88)]) (st' := []) (h1 := (SH, s)) rfl (Rn_if (fun h12 => ?_) (fun h12 => ?_))
        · replace hJ := m_ifp h12 hJ
          refine Rn_sq srt210 24 2 (pc' := 51) (ls' := [some (.ref 88)]) (st' := [(.ref 1000109), (.ref 88)]) (h1 := (SH, s)) rfl ?_
          obtain ⟨v14, h13, hJ⟩ := m_b1 hJ
          refine Rn_call srt210 26 rfl rfl rfl ⟨Nat.le_of_ble_eq_true rfl, Nat.le_of_ble_eq_true rfl, rfl, Nat.le_of_ble_eq_true rfl⟩ (k_X12_is 1000109 (d + 1) (by decide) h13) (show Rn N xs (d + 6) me210 54 [some (.ref 88)] [(.int v14)] (SH, s) r from ?_)
          refine Rn_sq srt210 27 1 (pc' := (if v14 = 0 then 60 else 57)) (ls' := [some (.ref 88)]) (st' := []) (h1 := (SH, s)) rfl (Rn_if (fun h15 => ?_) (fun h15 => ?_))
          · replace hJ := m_ifp h15 hJ
            refine Rn_sq srt210 30 2 (pc' := 63) (ls' := [some (.ref 88)]) (st' := [(.ref 1000110), (.ref 88)]) (h1 := (SH, s)) rfl ?_
            obtain ⟨v17, h16, hJ⟩ := m_b1 hJ
            refine Rn_call srt210 32 rfl rfl rfl ⟨Nat.le_of_ble_eq_true rfl, Nat.le_of_ble_eq_true rfl, rfl, Nat.le_of_ble_eq_true rfl⟩ (k_X12_is 1000110 (d + 1) (by decide) h16) (show Rn N xs (d + 6) me210 66 [some (.ref 88)] [(.int v17)] (SH, s) r from ?_)
            refine Rn_sq srt210 33 1 (pc' := (if v17 = 0 then 72 else 69)) (ls' := [some (.ref 88)]) (st' := []) (h1 := (SH, s)) rfl (Rn_if (fun h18 => ?_) (fun h18 => ?_))
            · replace hJ := m_ifp h18 hJ
              refine Rn_sq srt210 36 2 (pc' := 75) (ls' := [some (.ref 88)]) (st' := [(.ref 1000111), (.ref 88)]) (h1 := (SH, s)) rfl ?_
              obtain ⟨v20, h19, hJ⟩ := m_b1 hJ
              refine Rn_call srt210 38 rfl rfl rfl ⟨Nat.le_of_ble_eq_true rfl, Nat.le_of_ble_eq_true rfl, rfl, Nat.le_of_ble_eq_true rfl⟩ (k_X12_is 1000111 (d + 1) (by decide) h19) (show Rn N xs (d + 6) me210 78 [some (.ref 88)] [(.int v20)] (SH, s) r from ?_)
              refine Rn_sq srt210 39 1 (pc' := (if v20 = 0 then 84 else 81)) (ls' := [some (.ref 88)]) (st' := []) (h1 := (SH, s)) rfl (Rn_if (fun h21 => ?_) (fun h21 => ?_))
              · replace hJ := m_ifp h21 hJ
                refine Rn_sq srt210 42 2 (pc' := 87) (ls' := [some (.ref 88)]) (st' := [(.ref 1000112), (.ref 88)]) (h1 := (SH, s)) rfl ?_
                obtain ⟨v23, h22, hJ⟩ := m_b1 hJ
                refine Rn_call srt210 44 rfl rfl rfl ⟨Nat.le_of_ble_eq_true rfl, Nat.le_of_ble_eq_true rfl, rfl, Nat.le_of_ble_eq_true rfl⟩ (k_X12_is 1000112 (d + 1) (by decide) h22) (show Rn N xs (d + 6) me210 90 [some (.ref 88)] [(.int v23)] (SH, s) r from ?_)
                refine Rn_sq srt210 45 1 (pc' := (if v23 = 0 then 96 else 93)) (ls' := [some (.ref 88)]) (st' := []) (h1 := (SH, s)) rfl (Rn_if (fun h24 => ?_) (fun h24 => ?_))
                · replace hJ := m_ifp h24 hJ
                  refine Rn_sq srt210 48 2 (pc' := 99) (ls' := [some (.ref 88)]) (st' := [(.ref 1000113), (.ref 88)]) (h1 := (SH, s)) rfl ?_
                  obtain ⟨v26, h25, hJ⟩ := m_b1 hJ
                  refine Rn_call srt210 50 rfl rfl rfl ⟨Nat.le_of_ble_eq_true rfl, Nat.le_of_ble_eq_true rfl, rfl, Nat.le_of_ble_eq_true rfl⟩ (k_X12_is 1000113 (d + 1) (by decide) h25) (show Rn N xs (d + 6) me210 102 [some (.ref 88)] [(.int v26)] (SH, s) r from ?_)
                  refine Rn_sq srt210 51 1 (pc' := (if v26 = 0 then 110 else 105)) (ls' := [some (.ref 88)]) (st' := []) (h1 := (SH, s)) rfl (Rn_if (fun h27 => ?_) (fun h27 => ?_))
                  · replace hJ := m_ifp h27 hJ
                    refine Rn_sq srt210 54 1 (pc' := 111) (ls' := [some (.ref 88)]) (st' := [(.ref 88)]) (h1 := (SH, s)) rfl ?_
                    obtain ⟨v29, h28, hJ⟩ := m_b1 hJ
                    refine Rn_call srt210 55 rfl rfl rfl ⟨Nat.le_of_ble_eq_true rfl, Nat.le_of_ble_eq_true rfl, rfl, Nat.le_of_ble_eq_true rfl⟩ (k_X12_wordOfLaw (d) h28) (show Rn N xs (d + 6) me210 114 [some (.ref 88)] [(.int v29)] (SH, s) r from ?_)
                    rw [← Option.some.inj hJ] at hC
                    have hC : r = (some (.int v29), (SH, s)) := hC
                    subst hC
                    exact Rn_ret srt210 56 rfl rfl rfl
                  · replace hJ := m_ifn h27 hJ
                    refine Rn_sq srt210 52 2 (pc' := 114) (ls' := [some (.ref 88)]) (st' := [(.int (c8 49))]) (h1 := (SH, s)) rfl ?_
                    rw [← Option.some.inj hJ] at hC
                    have hC : r = (some (.int (c8 49)), (SH, s)) := hC
                    subst hC
                    exact Rn_ret srt210 56 rfl rfl rfl
                · replace hJ := m_ifn h24 hJ
                  refine Rn_sq srt210 46 1 (pc' := 95) (ls' := [some (.ref 88)]) (st' := [(.int (c8 48))]) (h1 := (SH, s)) rfl ?_
                  rw [← Option.some.inj hJ] at hC
                  have hC : r = (some (.int (c8 48)), (SH, s)) := hC
                  subst hC
                  exact Rn_ret srt210 47 rfl rfl rfl
              · replace hJ := m_ifn h21 hJ
                refine Rn_sq srt210 40 1 (pc' := 83) (ls' := [some (.ref 88)]) (st' := [(.int (c8 47))]) (h1 := (SH, s)) rfl ?_
                rw [← Option.some.inj hJ] at hC
                have hC : r = (some (.int (c8 47)), (SH, s)) := hC
                subst hC
                exact Rn_ret srt210 41 rfl rfl rfl
            · replace hJ := m_ifn h18 hJ
              refine Rn_sq srt210 34 1 (pc' := 71) (ls' := [some (.ref 88)]) (st' := [(.int (c8 46))]) (h1 := (SH, s)) rfl ?_
              rw [← Option.some.inj hJ] at hC
              have hC : r = (some (.int (c8 46)), (SH, s)) := hC
              subst hC
              exact Rn_ret srt210 35 rfl rfl rfl
          · replace hJ := m_ifn h15 hJ
            refine Rn_sq srt210 28 1 (pc' := 59) (ls' := [some (.ref 88)]) (st' := [(.int (c8 45))]) (h1 := (SH, s)) rfl ?_
            rw [← Option.some.inj hJ] at hC
            have hC : r = (some (.int (c8 45)), (SH, s)) := hC
            subst hC
            exact Rn_ret srt210 29 rfl rfl rfl
        · replace hJ := m_ifn h12 hJ
          refine Rn_sq srt210 22 1 (pc' := 47) (ls' := [some (.ref 88)]) (st' := [(.int (c8 44))]) (h1 := (SH, s)) rfl ?_
          rw [← Option.some.inj hJ] at hC
          have hC : r = (some (.int (c8 44)), (SH, s)) := hC
          subst hC
          exact Rn_ret srt210 23 rfl rfl rfl
      · replace hJ := m_ifn h9 hJ
        refine Rn_sq srt210 16 1 (pc' := 35) (ls' := [some (.ref 88)]) (st' := [(.int (c8 43))]) (h1 := (SH, s)) rfl ?_
        rw [← Option.some.inj hJ] at hC
        have hC : r = (some (.int (c8 43)), (SH, s)) := hC
        subst hC
        exact Rn_ret srt210 17 rfl rfl rfl
    · replace hJ := m_ifn h6 hJ
      refine Rn_sq srt210 10 1 (pc' := 23) (ls' := [some (.ref 88)]) (st' := [(.int (c8 42))]) (h1 := (SH, s)) rfl ?_
      rw [← Option.some.inj hJ] at hC
      have hC : r = (some (.int (c8 42)), (SH, s)) := hC
      subst hC
      exact Rn_ret srt210 11 rfl rfl rfl
  · replace hJ := m_ifn h3 hJ
    refine Rn_sq srt210 4 1 (pc' := 11) (ls' := [some (.ref 88)]) (st' := [(.int (c8 41))]) (h1 := (SH, s)) rfl ?_
    rw [← Option.some.inj hJ] at hC
    have hC : r = (some (.int (c8 41)), (SH, s)) := hC
    subst hC
    exact Rn_ret srt210 5 rfl rfl rfl
theorem k_X12_asked {N : Nat} {xs : Nat → Int32} (d : Nat) {s : mG} {τ : (Int32)} (hJ : F_X12_asked s = some τ) : Rn N xs (d + 6) me210 0 [some (.ref 88)] [] (SH, s) (some (.int τ), (SH, s)) := k_X12_asked_r d hJ rfl
/-! IsHeInModel.lawWord()I -/
theorem srt211 : m_srt mc211 = true := by decide +kernel
def F_X12_lawWord (s : mG) : Option (Int32) :=
  b1 (F_X12_is 1000101 s) fun v2 =>
  if v2 = 0 then
    b1 (F_X12_is 1000102 s) fun v5 =>
    if v5 = 0 then
      b1 (F_X12_is 1000103 s) fun v8 =>
      if v8 = 0 then
        b1 (F_X12_is 1000104 s) fun v11 =>
        if v11 = 0 then
          b1 (F_X12_asked s) fun v14 =>
          some v14
        else
          some (c8 6)
      else
        some (ci 5)
    else
      some (ci 4)
  else
    some (ci 3)
set_option maxRecDepth 4000 in
theorem k_X12_lawWord_r {N : Nat} {xs : Nat → Int32} (d : Nat) {r : Option Value × mH} {s : mG} {τ : (Int32)} (hJ : F_X12_lawWord s = some τ) (hC : (fun τ => r = (some (.int τ), (SH, s))) τ) : Rn N xs (d + 7) me211 0 [some (.ref 88)] [] (SH, s) r := by
  unfold F_X12_lawWord at hJ
  refine Rn_sq srt211 0 2 (pc' := 3) (ls' := [some (.ref 88)]) (st' := [(.ref 1000101), (.ref 88)]) (h1 := (SH, s)) rfl ?_
  obtain ⟨v2, h1, hJ⟩ := m_b1 hJ
  refine Rn_call srt211 2 rfl rfl rfl ⟨Nat.le_of_ble_eq_true rfl, Nat.le_of_ble_eq_true rfl, rfl, Nat.le_of_ble_eq_true rfl⟩ (k_X12_is 1000101 (d + 2) (by decide) h1) (show Rn N xs (d + 7) me211 6 [some (.ref 88)] [(.int v2)] (SH, s) r from ?_)
  refine Rn_sq srt211 3 1 (pc' := (if v2 = 0 then 11 else 9)) (ls' := [some (.ref 88)]) (st' := []) (h1 := (SH, s)) rfl (Rn_if (fun h3 => ?_) (fun h3 => ?_))
  · replace hJ := m_ifp h3 hJ
    refine Rn_sq srt211 6 2 (pc' := 14) (ls' := [some (.ref 88)]) (st' := [(.ref 1000102), (.ref 88)]) (h1 := (SH, s)) rfl ?_
    obtain ⟨v5, h4, hJ⟩ := m_b1 hJ
    refine Rn_call srt211 8 rfl rfl rfl ⟨Nat.le_of_ble_eq_true rfl, Nat.le_of_ble_eq_true rfl, rfl, Nat.le_of_ble_eq_true rfl⟩ (k_X12_is 1000102 (d + 2) (by decide) h4) (show Rn N xs (d + 7) me211 17 [some (.ref 88)] [(.int v5)] (SH, s) r from ?_)
    refine Rn_sq srt211 9 1 (pc' := (if v5 = 0 then 22 else 20)) (ls' := [some (.ref 88)]) (st' := []) (h1 := (SH, s)) rfl (Rn_if (fun h6 => ?_) (fun h6 => ?_))
    · replace hJ := m_ifp h6 hJ
      refine Rn_sq srt211 12 2 (pc' := 25) (ls' := [some (.ref 88)]) (st' := [(.ref 1000103), (.ref 88)]) (h1 := (SH, s)) rfl ?_
      obtain ⟨v8, h7, hJ⟩ := m_b1 hJ
      refine Rn_call srt211 14 rfl rfl rfl ⟨Nat.le_of_ble_eq_true rfl, Nat.le_of_ble_eq_true rfl, rfl, Nat.le_of_ble_eq_true rfl⟩ (k_X12_is 1000103 (d + 2) (by decide) h7) (show Rn N xs (d + 7) me211 28 [some (.ref 88)] [(.int v8)] (SH, s) r from ?_)
      refine Rn_sq srt211 15 1 (pc' := (if v8 = 0 then 33 else 31)) (ls' := [some (.ref 88)]) (st' := []) (h1 := (SH, s)) rfl (Rn_if (fun h9 => ?_) (fun h9 => ?_))
      · replace hJ := m_ifp h9 hJ
        refine Rn_sq srt211 18 2 (pc' := 36) (ls' := [some (.ref 88)]) (st' := [(.ref 1000104), (.ref 88)]) (h1 := (SH, s)) rfl ?_
        obtain ⟨v11, h10, hJ⟩ := m_b1 hJ
        refine Rn_call srt211 20 rfl rfl rfl ⟨Nat.le_of_ble_eq_true rfl, Nat.le_of_ble_eq_true rfl, rfl, Nat.le_of_ble_eq_true rfl⟩ (k_X12_is 1000104 (d + 2) (by decide) h10) (show Rn N xs (d + 7) me211 39 [some (.ref 88)] [(.int v11)] (SH, s) r from ?_)
        refine Rn_sq srt211 21 1 (pc' := (if v11 = 0 then 47 else 42)) (ls' := [some (.ref 88)]) (st' := []) (h1 := (SH, s)) rfl (Rn_if (fun h12 => ?_) (fun h12 => ?_))
        · replace hJ := m_ifp h12 hJ
          refine Rn_sq srt211 24 1 (pc' := 48) (ls' := [some (.ref 88)]) (st' := [(.ref 88)]) (h1 := (SH, s)) rfl ?_
          obtain ⟨v14, h13, hJ⟩ := m_b1 hJ
          refine Rn_call srt211 25 rfl rfl rfl ⟨Nat.le_of_ble_eq_true rfl, Nat.le_of_ble_eq_true rfl, rfl, Nat.le_of_ble_eq_true rfl⟩ (k_X12_asked (d) h13) (show Rn N xs (d + 7) me211 51 [some (.ref 88)] [(.int v14)] (SH, s) r from ?_)
          rw [← Option.some.inj hJ] at hC
          have hC : r = (some (.int v14), (SH, s)) := hC
          subst hC
          exact Rn_ret srt211 26 rfl rfl rfl
        · replace hJ := m_ifn h12 hJ
          refine Rn_sq srt211 22 2 (pc' := 51) (ls' := [some (.ref 88)]) (st' := [(.int (c8 6))]) (h1 := (SH, s)) rfl ?_
          rw [← Option.some.inj hJ] at hC
          have hC : r = (some (.int (c8 6)), (SH, s)) := hC
          subst hC
          exact Rn_ret srt211 26 rfl rfl rfl
      · replace hJ := m_ifn h9 hJ
        refine Rn_sq srt211 16 1 (pc' := 32) (ls' := [some (.ref 88)]) (st' := [(.int (ci 5))]) (h1 := (SH, s)) rfl ?_
        rw [← Option.some.inj hJ] at hC
        have hC : r = (some (.int (ci 5)), (SH, s)) := hC
        subst hC
        exact Rn_ret srt211 17 rfl rfl rfl
    · replace hJ := m_ifn h6 hJ
      refine Rn_sq srt211 10 1 (pc' := 21) (ls' := [some (.ref 88)]) (st' := [(.int (ci 4))]) (h1 := (SH, s)) rfl ?_
      rw [← Option.some.inj hJ] at hC
      have hC : r = (some (.int (ci 4)), (SH, s)) := hC
      subst hC
      exact Rn_ret srt211 11 rfl rfl rfl
  · replace hJ := m_ifn h3 hJ
    refine Rn_sq srt211 4 1 (pc' := 10) (ls' := [some (.ref 88)]) (st' := [(.int (ci 3))]) (h1 := (SH, s)) rfl ?_
    rw [← Option.some.inj hJ] at hC
    have hC : r = (some (.int (ci 3)), (SH, s)) := hC
    subst hC
    exact Rn_ret srt211 5 rfl rfl rfl
theorem k_X12_lawWord {N : Nat} {xs : Nat → Int32} (d : Nat) {s : mG} {τ : (Int32)} (hJ : F_X12_lawWord s = some τ) : Rn N xs (d + 7) me211 0 [some (.ref 88)] [] (SH, s) (some (.int τ), (SH, s)) := k_X12_lawWord_r d hJ rfl
/-! IsHeInModel.signWord()I -/
theorem srt212 : m_srt mc212 = true := by decide +kernel
def F_X12_signWord (s : mG) : Option (Int32) :=
  b1 (F_X12_is 1000120 s) fun v2 =>
  if v2 = 0 then
    b1 (F_X12_is 1000121 s) fun v5 =>
    if v5 = 0 then
      b1 (F_X12_is 1000122 s) fun v8 =>
      if v8 = 0 then
        some (ci 1)
      else
        some (c8 9)
    else
      some (c8 8)
  else
    some (c8 7)
set_option maxRecDepth 4000 in
theorem k_X12_signWord_r {N : Nat} {xs : Nat → Int32} (d : Nat) {r : Option Value × mH} {s : mG} {τ : (Int32)} (hJ : F_X12_signWord s = some τ) (hC : (fun τ => r = (some (.int τ), (SH, s))) τ) : Rn N xs (d + 5) me212 0 [some (.ref 88)] [] (SH, s) r := by
  unfold F_X12_signWord at hJ
  refine Rn_sq srt212 0 2 (pc' := 3) (ls' := [some (.ref 88)]) (st' := [(.ref 1000120), (.ref 88)]) (h1 := (SH, s)) rfl ?_
  obtain ⟨v2, h1, hJ⟩ := m_b1 hJ
  refine Rn_call srt212 2 rfl rfl rfl ⟨Nat.le_of_ble_eq_true rfl, Nat.le_of_ble_eq_true rfl, rfl, Nat.le_of_ble_eq_true rfl⟩ (k_X12_is 1000120 (d) (by decide) h1) (show Rn N xs (d + 5) me212 6 [some (.ref 88)] [(.int v2)] (SH, s) r from ?_)
  refine Rn_sq srt212 3 1 (pc' := (if v2 = 0 then 12 else 9)) (ls' := [some (.ref 88)]) (st' := []) (h1 := (SH, s)) rfl (Rn_if (fun h3 => ?_) (fun h3 => ?_))
  · replace hJ := m_ifp h3 hJ
    refine Rn_sq srt212 6 2 (pc' := 15) (ls' := [some (.ref 88)]) (st' := [(.ref 1000121), (.ref 88)]) (h1 := (SH, s)) rfl ?_
    obtain ⟨v5, h4, hJ⟩ := m_b1 hJ
    refine Rn_call srt212 8 rfl rfl rfl ⟨Nat.le_of_ble_eq_true rfl, Nat.le_of_ble_eq_true rfl, rfl, Nat.le_of_ble_eq_true rfl⟩ (k_X12_is 1000121 (d) (by decide) h4) (show Rn N xs (d + 5) me212 18 [some (.ref 88)] [(.int v5)] (SH, s) r from ?_)
    refine Rn_sq srt212 9 1 (pc' := (if v5 = 0 then 24 else 21)) (ls' := [some (.ref 88)]) (st' := []) (h1 := (SH, s)) rfl (Rn_if (fun h6 => ?_) (fun h6 => ?_))
    · replace hJ := m_ifp h6 hJ
      refine Rn_sq srt212 12 2 (pc' := 27) (ls' := [some (.ref 88)]) (st' := [(.ref 1000122), (.ref 88)]) (h1 := (SH, s)) rfl ?_
      obtain ⟨v8, h7, hJ⟩ := m_b1 hJ
      refine Rn_call srt212 14 rfl rfl rfl ⟨Nat.le_of_ble_eq_true rfl, Nat.le_of_ble_eq_true rfl, rfl, Nat.le_of_ble_eq_true rfl⟩ (k_X12_is 1000122 (d) (by decide) h7) (show Rn N xs (d + 5) me212 30 [some (.ref 88)] [(.int v8)] (SH, s) r from ?_)
      refine Rn_sq srt212 15 1 (pc' := (if v8 = 0 then 38 else 33)) (ls' := [some (.ref 88)]) (st' := []) (h1 := (SH, s)) rfl (Rn_if (fun h9 => ?_) (fun h9 => ?_))
      · replace hJ := m_ifp h9 hJ
        refine Rn_sq srt212 18 1 (pc' := 39) (ls' := [some (.ref 88)]) (st' := [(.int (ci 1))]) (h1 := (SH, s)) rfl ?_
        rw [← Option.some.inj hJ] at hC
        have hC : r = (some (.int (ci 1)), (SH, s)) := hC
        subst hC
        exact Rn_ret srt212 19 rfl rfl rfl
      · replace hJ := m_ifn h9 hJ
        refine Rn_sq srt212 16 2 (pc' := 39) (ls' := [some (.ref 88)]) (st' := [(.int (c8 9))]) (h1 := (SH, s)) rfl ?_
        rw [← Option.some.inj hJ] at hC
        have hC : r = (some (.int (c8 9)), (SH, s)) := hC
        subst hC
        exact Rn_ret srt212 19 rfl rfl rfl
    · replace hJ := m_ifn h6 hJ
      refine Rn_sq srt212 10 1 (pc' := 23) (ls' := [some (.ref 88)]) (st' := [(.int (c8 8))]) (h1 := (SH, s)) rfl ?_
      rw [← Option.some.inj hJ] at hC
      have hC : r = (some (.int (c8 8)), (SH, s)) := hC
      subst hC
      exact Rn_ret srt212 11 rfl rfl rfl
  · replace hJ := m_ifn h3 hJ
    refine Rn_sq srt212 4 1 (pc' := 11) (ls' := [some (.ref 88)]) (st' := [(.int (c8 7))]) (h1 := (SH, s)) rfl ?_
    rw [← Option.some.inj hJ] at hC
    have hC : r = (some (.int (c8 7)), (SH, s)) := hC
    subst hC
    exact Rn_ret srt212 5 rfl rfl rfl
theorem k_X12_signWord {N : Nat} {xs : Nat → Int32} (d : Nat) {s : mG} {τ : (Int32)} (hJ : F_X12_signWord s = some τ) : Rn N xs (d + 5) me212 0 [some (.ref 88)] [] (SH, s) (some (.int τ), (SH, s)) := k_X12_signWord_r d hJ rfl
/-! IsHeInModel.shiftWord()I -/
theorem srt213 : m_srt mc213 = true := by decide +kernel
def F_X12_shiftWord (s : mG) : Option (Int32) :=
  b1 (F_X12_is 1000123 s) fun v2 =>
  if v2 = 0 then
    b1 (F_X12_is 1000124 s) fun v5 =>
    if v5 = 0 then
      b1 (F_X12_is 1000125 s) fun v8 =>
      if v8 = 0 then
        b1 (F_X12_is 1000126 s) fun v11 =>
        if v11 = 0 then
          some (ci 1)
        else
          some (c8 13)
      else
        some (c8 12)
    else
      some (c8 11)
  else
    some (c8 10)
set_option maxRecDepth 4000 in
theorem k_X12_shiftWord_r {N : Nat} {xs : Nat → Int32} (d : Nat) {r : Option Value × mH} {s : mG} {τ : (Int32)} (hJ : F_X12_shiftWord s = some τ) (hC : (fun τ => r = (some (.int τ), (SH, s))) τ) : Rn N xs (d + 5) me213 0 [some (.ref 88)] [] (SH, s) r := by
  unfold F_X12_shiftWord at hJ
  refine Rn_sq srt213 0 2 (pc' := 3) (ls' := [some (.ref 88)]) (st' := [(.ref 1000123), (.ref 88)]) (h1 := (SH, s)) rfl ?_
  obtain ⟨v2, h1, hJ⟩ := m_b1 hJ
  refine Rn_call srt213 2 rfl rfl rfl ⟨Nat.le_of_ble_eq_true rfl, Nat.le_of_ble_eq_true rfl, rfl, Nat.le_of_ble_eq_true rfl⟩ (k_X12_is 1000123 (d) (by decide) h1) (show Rn N xs (d + 5) me213 6 [some (.ref 88)] [(.int v2)] (SH, s) r from ?_)
  refine Rn_sq srt213 3 1 (pc' := (if v2 = 0 then 12 else 9)) (ls' := [some (.ref 88)]) (st' := []) (h1 := (SH, s)) rfl (Rn_if (fun h3 => ?_) (fun h3 => ?_))
  · replace hJ := m_ifp h3 hJ
    refine Rn_sq srt213 6 2 (pc' := 15) (ls' := [some (.ref 88)]) (st' := [(.ref 1000124), (.ref 88)]) (h1 := (SH, s)) rfl ?_
    obtain ⟨v5, h4, hJ⟩ := m_b1 hJ
    refine Rn_call srt213 8 rfl rfl rfl ⟨Nat.le_of_ble_eq_true rfl, Nat.le_of_ble_eq_true rfl, rfl, Nat.le_of_ble_eq_true rfl⟩ (k_X12_is 1000124 (d) (by decide) h4) (show Rn N xs (d + 5) me213 18 [some (.ref 88)] [(.int v5)] (SH, s) r from ?_)
    refine Rn_sq srt213 9 1 (pc' := (if v5 = 0 then 24 else 21)) (ls' := [some (.ref 88)]) (st' := []) (h1 := (SH, s)) rfl (Rn_if (fun h6 => ?_) (fun h6 => ?_))
    · replace hJ := m_ifp h6 hJ
      refine Rn_sq srt213 12 2 (pc' := 27) (ls' := [some (.ref 88)]) (st' := [(.ref 1000125), (.ref 88)]) (h1 := (SH, s)) rfl ?_
      obtain ⟨v8, h7, hJ⟩ := m_b1 hJ
      refine Rn_call srt213 14 rfl rfl rfl ⟨Nat.le_of_ble_eq_true rfl, Nat.le_of_ble_eq_true rfl, rfl, Nat.le_of_ble_eq_true rfl⟩ (k_X12_is 1000125 (d) (by decide) h7) (show Rn N xs (d + 5) me213 30 [some (.ref 88)] [(.int v8)] (SH, s) r from ?_)
      refine Rn_sq srt213 15 1 (pc' := (if v8 = 0 then 36 else 33)) (ls' := [some (.ref 88)]) (st' := []) (h1 := (SH, s)) rfl (Rn_if (fun h9 => ?_) (fun h9 => ?_))
      · replace hJ := m_ifp h9 hJ
        refine Rn_sq srt213 18 2 (pc' := 39) (ls' := [some (.ref 88)]) (st' := [(.ref 1000126), (.ref 88)]) (h1 := (SH, s)) rfl ?_
        obtain ⟨v11, h10, hJ⟩ := m_b1 hJ
        refine Rn_call srt213 20 rfl rfl rfl ⟨Nat.le_of_ble_eq_true rfl, Nat.le_of_ble_eq_true rfl, rfl, Nat.le_of_ble_eq_true rfl⟩ (k_X12_is 1000126 (d) (by decide) h10) (show Rn N xs (d + 5) me213 42 [some (.ref 88)] [(.int v11)] (SH, s) r from ?_)
        refine Rn_sq srt213 21 1 (pc' := (if v11 = 0 then 50 else 45)) (ls' := [some (.ref 88)]) (st' := []) (h1 := (SH, s)) rfl (Rn_if (fun h12 => ?_) (fun h12 => ?_))
        · replace hJ := m_ifp h12 hJ
          refine Rn_sq srt213 24 1 (pc' := 51) (ls' := [some (.ref 88)]) (st' := [(.int (ci 1))]) (h1 := (SH, s)) rfl ?_
          rw [← Option.some.inj hJ] at hC
          have hC : r = (some (.int (ci 1)), (SH, s)) := hC
          subst hC
          exact Rn_ret srt213 25 rfl rfl rfl
        · replace hJ := m_ifn h12 hJ
          refine Rn_sq srt213 22 2 (pc' := 51) (ls' := [some (.ref 88)]) (st' := [(.int (c8 13))]) (h1 := (SH, s)) rfl ?_
          rw [← Option.some.inj hJ] at hC
          have hC : r = (some (.int (c8 13)), (SH, s)) := hC
          subst hC
          exact Rn_ret srt213 25 rfl rfl rfl
      · replace hJ := m_ifn h9 hJ
        refine Rn_sq srt213 16 1 (pc' := 35) (ls' := [some (.ref 88)]) (st' := [(.int (c8 12))]) (h1 := (SH, s)) rfl ?_
        rw [← Option.some.inj hJ] at hC
        have hC : r = (some (.int (c8 12)), (SH, s)) := hC
        subst hC
        exact Rn_ret srt213 17 rfl rfl rfl
    · replace hJ := m_ifn h6 hJ
      refine Rn_sq srt213 10 1 (pc' := 23) (ls' := [some (.ref 88)]) (st' := [(.int (c8 11))]) (h1 := (SH, s)) rfl ?_
      rw [← Option.some.inj hJ] at hC
      have hC : r = (some (.int (c8 11)), (SH, s)) := hC
      subst hC
      exact Rn_ret srt213 11 rfl rfl rfl
  · replace hJ := m_ifn h3 hJ
    refine Rn_sq srt213 4 1 (pc' := 11) (ls' := [some (.ref 88)]) (st' := [(.int (c8 10))]) (h1 := (SH, s)) rfl ?_
    rw [← Option.some.inj hJ] at hC
    have hC : r = (some (.int (c8 10)), (SH, s)) := hC
    subst hC
    exact Rn_ret srt213 5 rfl rfl rfl
theorem k_X12_shiftWord {N : Nat} {xs : Nat → Int32} (d : Nat) {s : mG} {τ : (Int32)} (hJ : F_X12_shiftWord s = some τ) : Rn N xs (d + 5) me213 0 [some (.ref 88)] [] (SH, s) (some (.int τ), (SH, s)) := k_X12_shiftWord_r d hJ rfl
/-! IsHeInModel.word()I -/
theorem srt214 : m_srt mc214 = true := by decide +kernel
def F_X12_word (s : mG) : Option (Int32) :=
  if (s.1 88 11) = 0 then
    b1 (F_X12_lawWord s) fun v3 =>
    some v3
  else
    if (s.1 88 11) = (ci 1) then
      b1 (F_X12_signWord s) fun v6 =>
      some v6
    else
      b1 (F_X12_shiftWord s) fun v8 =>
      some v8
set_option maxRecDepth 4000 in
theorem k_X12_word_r {N : Nat} {xs : Nat → Int32} (d : Nat) {r : Option Value × mH} {s : mG} {τ : (Int32)} (hJ : F_X12_word s = some τ) (hC : (fun τ => r = (some (.int τ), (SH, s))) τ) : Rn N xs (d + 8) me214 0 [some (.ref 88)] [] (SH, s) r := by
  unfold F_X12_word at hJ
  refine Rn_sq srt214 0 3 (pc' := (if (s.1 88 11) = 0 then 7 else 14)) (ls' := [some (.ref 88)]) (st' := []) (h1 := (SH, s)) rfl (Rn_if (fun h1 => ?_) (fun h1 => ?_))
  · replace hJ := m_ifp h1 hJ
    refine Rn_sq srt214 3 1 (pc' := 8) (ls' := [some (.ref 88)]) (st' := [(.ref 88)]) (h1 := (SH, s)) rfl ?_
    obtain ⟨v3, h2, hJ⟩ := m_b1 hJ
    refine Rn_call srt214 4 rfl rfl rfl ⟨Nat.le_of_ble_eq_true rfl, Nat.le_of_ble_eq_true rfl, rfl, Nat.le_of_ble_eq_true rfl⟩ (k_X12_lawWord (d) h2) (show Rn N xs (d + 8) me214 11 [some (.ref 88)] [(.int v3)] (SH, s) r from ?_)
    refine Rn_sq srt214 5 1 (pc' := 33) (ls' := [some (.ref 88)]) (st' := [(.int v3)]) (h1 := (SH, s)) rfl ?_
    rw [← Option.some.inj hJ] at hC
    have hC : r = (some (.int v3), (SH, s)) := hC
    subst hC
    exact Rn_ret srt214 15 rfl rfl rfl
  · replace hJ := m_ifn h1 hJ
    refine Rn_sq srt214 6 4 (pc' := (if (s.1 88 11) = (ci 1) then 22 else 29)) (ls' := [some (.ref 88)]) (st' := []) (h1 := (SH, s)) rfl (Rn_if (fun h4 => ?_) (fun h4 => ?_))
    · replace hJ := m_ifp h4 hJ
      refine Rn_sq srt214 10 1 (pc' := 23) (ls' := [some (.ref 88)]) (st' := [(.ref 88)]) (h1 := (SH, s)) rfl ?_
      obtain ⟨v6, h5, hJ⟩ := m_b1 hJ
      refine Rn_call srt214 11 rfl rfl rfl ⟨Nat.le_of_ble_eq_true rfl, Nat.le_of_ble_eq_true rfl, rfl, Nat.le_of_ble_eq_true rfl⟩ (k_X12_signWord (d + 2) h5) (show Rn N xs (d + 8) me214 26 [some (.ref 88)] [(.int v6)] (SH, s) r from ?_)
      refine Rn_sq srt214 12 1 (pc' := 33) (ls' := [some (.ref 88)]) (st' := [(.int v6)]) (h1 := (SH, s)) rfl ?_
      rw [← Option.some.inj hJ] at hC
      have hC : r = (some (.int v6), (SH, s)) := hC
      subst hC
      exact Rn_ret srt214 15 rfl rfl rfl
    · replace hJ := m_ifn h4 hJ
      refine Rn_sq srt214 13 1 (pc' := 30) (ls' := [some (.ref 88)]) (st' := [(.ref 88)]) (h1 := (SH, s)) rfl ?_
      obtain ⟨v8, h7, hJ⟩ := m_b1 hJ
      refine Rn_call srt214 14 rfl rfl rfl ⟨Nat.le_of_ble_eq_true rfl, Nat.le_of_ble_eq_true rfl, rfl, Nat.le_of_ble_eq_true rfl⟩ (k_X12_shiftWord (d + 2) h7) (show Rn N xs (d + 8) me214 33 [some (.ref 88)] [(.int v8)] (SH, s) r from ?_)
      rw [← Option.some.inj hJ] at hC
      have hC : r = (some (.int v8), (SH, s)) := hC
      subst hC
      exact Rn_ret srt214 15 rfl rfl rfl
theorem k_X12_word {N : Nat} {xs : Nat → Int32} (d : Nat) {s : mG} {τ : (Int32)} (hJ : F_X12_word s = some τ) : Rn N xs (d + 8) me214 0 [some (.ref 88)] [] (SH, s) (some (.int τ), (SH, s)) := k_X12_word_r d hJ rfl
/-! IsHeInModel.next0()V -/
theorem srt215 : m_srt mc215 = true := by decide +kernel
def C_X12_next0_0 (N : Nat) (xs : Nat → Int32) (d : Nat) (r : Option Value × mH) (C : (mG) → Prop) : ((mG) ⊕ (mG)) → Prop
  | .inl v => Rn N xs (d + 9) me215 0 [some (.ref 88), none, none] [] (SH, v) r
  | .inr a => C a
def F_X12_next0_26 (s : mG) : Option ((mG) ⊕ (mG)) :=
  let s4 : mG := (mu s.1 88 16 ((s.1 88 16) + (ci 1)), s.2)
  some (Sum.inl s4)
set_option maxRecDepth 4000 in
theorem k_X12_next0_26 {N : Nat} {xs : Nat → Int32} (d : Nat) {r : Option Value × mH} {s : mG} {τ : ((mG) ⊕ (mG))} (hJ : F_X12_next0_26 s = some τ) (hC : (C_X12_next0_0 N xs d r (fun τ => r = (none, (SH, τ)))) τ) : Rn N xs (d + 9) me215 26 [some (.ref 88), none, none] [] (SH, s) r := by
  unfold F_X12_next0_26 at hJ
  extract_lets +onlyGivenNames s4 at hJ
  refine Rn_sq srt215 12 7 (pc' := 0) (ls' := [some (.ref 88), none, none]) (st' := []) (h1 := (SH, s4)) rfl ?_
  rw [← Option.some.inj hJ] at hC
  exact hC
def F_X12_next0_303 (y1 : Int32) (s : mG) : Option (mG) :=
  let s22 : mG := (mu s.1 88 17 y1, s.2)
  some s22
set_option maxRecDepth 4000 in
theorem k_X12_next0_303 {N : Nat} {xs : Nat → Int32} (d : Nat) {r : Option Value × mH} {s : mG} {y1 : Int32} {τ : (mG)} (hJ : F_X12_next0_303 y1 s = some τ) (hC : (fun τ => r = (none, (SH, τ))) τ) : Rn N xs (d + 9) me215 303 [none, none, none] [(.int y1), (.ref 88)] (SH, s) r := by
  unfold F_X12_next0_303 at hJ
  extract_lets +onlyGivenNames s22 at hJ
  refine Rn_sq srt215 156 1 (pc' := 306) (ls' := [none, none, none]) (st' := []) (h1 := (SH, s22)) rfl ?_
  rw [← Option.some.inj hJ] at hC
  have hC : r = (none, (SH, s22)) := hC
  subst hC
  exact Rn_ret srt215 157 rfl rfl rfl
def F_X12_next0_289 (x1 : Int32) (y0 : Int32) (s : mG) : Option (mG) :=
  if y0 = 0 then
    F_X12_next0_303 (ci 1) s
  else
    F_X12_next0_303 ((c8 100) + x1) s
set_option maxRecDepth 4000 in
theorem k_X12_next0_289 {N : Nat} {xs : Nat → Int32} (d : Nat) {r : Option Value × mH} {s : mG} {x1 : Int32} {y0 : Int32} {τ : (mG)} (hJ : F_X12_next0_289 x1 y0 s = some τ) (hC : (fun τ => r = (none, (SH, τ))) τ) : Rn N xs (d + 9) me215 289 [some (.ref 88), some (.int x1), none] [(.int y0)] (SH, s) r := by
  unfold F_X12_next0_289 at hJ
  refine Rn_sq srt215 147 4 (pc' := (if y0 = 0 then 302 else 295)) (ls' := [some (.ref 88), some (.int x1), some (.int y0)]) (st' := [(.ref 88)]) (h1 := (SH, s)) rfl (Rn_if (fun h21 => ?_) (fun h21 => ?_))
  · replace hJ := m_ifp h21 hJ
    refine Rn_sq srt215 155 1 (pc' := 303) (ls' := [some (.ref 88), some (.int x1), some (.int y0)]) (st' := [(.int (ci 1)), (.ref 88)]) (h1 := (SH, s)) rfl ?_
    exact Rn_weaken (a := [none, none, none]) (b := [some (.ref 88), some (.int x1), some (.int y0)]) trivial rfl (k_X12_next0_303 d hJ hC)
  · replace hJ := m_ifn h21 hJ
    refine Rn_sq srt215 151 4 (pc' := 303) (ls' := [some (.ref 88), some (.int x1), some (.int y0)]) (st' := [(.int ((c8 100) + x1)), (.ref 88)]) (h1 := (SH, s)) rfl ?_
    exact Rn_weaken (a := [none, none, none]) (b := [some (.ref 88), some (.int x1), some (.int y0)]) trivial rfl (k_X12_next0_303 d hJ hC)
def F_X12_next0_284 (x1 : Int32) (s : mG) : Option (mG) :=
  F_X12_next0_289 x1 (ci 1) s
set_option maxRecDepth 4000 in
theorem k_X12_next0_284 {N : Nat} {xs : Nat → Int32} (d : Nat) {r : Option Value × mH} {s : mG} {x1 : Int32} {τ : (mG)} (hJ : F_X12_next0_284 x1 s = some τ) (hC : (fun τ => r = (none, (SH, τ))) τ) : Rn N xs (d + 9) me215 284 [some (.ref 88), some (.int x1), none] [] (SH, s) r := by
  unfold F_X12_next0_284 at hJ
  refine Rn_sq srt215 144 2 (pc' := 289) (ls' := [some (.ref 88), some (.int x1), none]) (st' := [(.int (ci 1))]) (h1 := (SH, s)) rfl ?_
  exact (k_X12_next0_289 d hJ hC)
def C_X12_next0_126 (N : Nat) (xs : Nat → Int32) (d : Nat) (r : Option Value × mH) (C : (mG) → Prop) : ((mG) ⊕ (mG)) → Prop
  | .inl v => Rn N xs (d + 9) me215 126 [some (.ref 88), none, none] [] (SH, v) r
  | .inr a => C a
def F_X12_next0_208 (y1 : Int32) (s : mG) : Option (mG) :=
  let s39 : mG := (mu s.1 88 17 y1, s.2)
  some s39
set_option maxRecDepth 4000 in
theorem k_X12_next0_208 {N : Nat} {xs : Nat → Int32} (d : Nat) {r : Option Value × mH} {s : mG} {y1 : Int32} {τ : (mG)} (hJ : F_X12_next0_208 y1 s = some τ) (hC : (fun τ => r = (none, (SH, τ))) τ) : Rn N xs (d + 9) me215 208 [none, none, none] [(.int y1), (.ref 88)] (SH, s) r := by
  unfold F_X12_next0_208 at hJ
  extract_lets +onlyGivenNames s39 at hJ
  refine Rn_sq srt215 106 2 (pc' := 306) (ls' := [none, none, none]) (st' := []) (h1 := (SH, s39)) rfl ?_
  rw [← Option.some.inj hJ] at hC
  have hC : r = (none, (SH, s39)) := hC
  subst hC
  exact Rn_ret srt215 157 rfl rfl rfl
def F_X12_next0_176 (s : mG) : Option ((mG) ⊕ (mG)) :=
  let s41 : mG := (mu s.1 88 16 ((s.1 88 16) + (ci 1)), s.2)
  some (Sum.inl s41)
set_option maxRecDepth 4000 in
theorem k_X12_next0_176 {N : Nat} {xs : Nat → Int32} (d : Nat) {r : Option Value × mH} {s : mG} {τ : ((mG) ⊕ (mG))} (hJ : F_X12_next0_176 s = some τ) (hC : (C_X12_next0_126 N xs d r (fun τ => r = (none, (SH, τ)))) τ) : Rn N xs (d + 9) me215 176 [some (.ref 88), none, none] [] (SH, s) r := by
  unfold F_X12_next0_176 at hJ
  extract_lets +onlyGivenNames s41 at hJ
  refine Rn_sq srt215 88 7 (pc' := 126) (ls' := [some (.ref 88), none, none]) (st' := []) (h1 := (SH, s41)) rfl ?_
  rw [← Option.some.inj hJ] at hC
  exact hC
def F_X12_next0_B126 (s : mG) : Option ((mG) ⊕ (mG)) :=
  b1 (F_X12_see s (s.1 88 16)) fun v34 =>
  b1 (F_X12_isDigit s v34) fun v36 =>
  if v36 = 0 then
    if (ci 5) ≤ ((s.1 88 16) - (s.1 88 18)) then
      b1 (F_X12_next0_208 (ci 1) s) fun τ => some (Sum.inr τ)
    else
      b1 (F_X12_next0_208 (ci 2) s) fun τ => some (Sum.inr τ)
  else
    if ((s.1 88 18) + (ci 4)) ≤ (s.1 88 16) then
      F_X12_next0_176 s
    else
      b1 (F_X12_see s (s.1 88 16)) fun v43 =>
      let s44 : mG := (mu s.1 88 19 ((((c8 10) * (s.1 88 19)) + v43) - (c8 48)), s.2)
      F_X12_next0_176 s44
set_option maxRecDepth 4000 in
theorem k_X12_next0_B126 {N : Nat} {xs : Nat → Int32} (d : Nat) {r : Option Value × mH} {s : mG} {τ : ((mG) ⊕ (mG))} (hJ : F_X12_next0_B126 s = some τ) (hC : (C_X12_next0_126 N xs d r (fun τ => r = (none, (SH, τ)))) τ) : Rn N xs (d + 9) me215 126 [some (.ref 88), none, none] [] (SH, s) r := by
  unfold F_X12_next0_B126 at hJ
  refine Rn_sq srt215 62 3 (pc' := 131) (ls' := [some (.ref 88), none, none]) (st' := [(.int (s.1 88 16)), (.ref 88)]) (h1 := (SH, s)) rfl ?_
  obtain ⟨v34, h33, hJ⟩ := m_b1 hJ
  refine Rn_call srt215 65 rfl rfl rfl ⟨Nat.le_of_ble_eq_true rfl, Nat.le_of_ble_eq_true rfl, rfl, Nat.le_of_ble_eq_true rfl⟩ (k_X12_see (d + 8) h33) (show Rn N xs (d + 9) me215 134 [some (.ref 88), none, none] [(.int v34)] (SH, s) r from ?_)
  obtain ⟨v36, h35, hJ⟩ := m_b1 hJ
  refine Rn_call srt215 66 rfl rfl rfl ⟨Nat.le_of_ble_eq_true rfl, Nat.le_of_ble_eq_true rfl, rfl, Nat.le_of_ble_eq_true rfl⟩ (k_X12_isDigit (d + 7) h35) (show Rn N xs (d + 9) me215 137 [some (.ref 88), none, none] [(.int v36)] (SH, s) r from ?_)
  refine Rn_sq srt215 67 1 (pc' := (if v36 = 0 then 189 else 140)) (ls' := [some (.ref 88), none, none]) (st' := []) (h1 := (SH, s)) rfl (Rn_if (fun h37 => ?_) (fun h37 => ?_))
  · replace hJ := m_ifp h37 hJ
    refine Rn_sq srt215 95 8 (pc' := (if (ci 5) ≤ ((s.1 88 16) - (s.1 88 18)) then 207 else 203)) (ls' := [some (.ref 88), none, none]) (st' := [(.ref 88)]) (h1 := (SH, s)) rfl (Rn_if (fun h38 => ?_) (fun h38 => ?_))
    · replace hJ := m_ifp h38 hJ
      refine Rn_sq srt215 105 1 (pc' := 208) (ls' := [some (.ref 88), none, none]) (st' := [(.int (ci 1)), (.ref 88)]) (h1 := (SH, s)) rfl ?_
      obtain ⟨τ1, hJ1, hJ⟩ := m_b1 hJ
      rw [← Option.some.inj hJ] at hC
      exact Rn_weaken (a := [none, none, none]) (b := [some (.ref 88), none, none]) trivial rfl (k_X12_next0_208 d hJ1 hC)
    · replace hJ := m_ifn h38 hJ
      refine Rn_sq srt215 103 2 (pc' := 208) (ls' := [some (.ref 88), none, none]) (st' := [(.int (ci 2)), (.ref 88)]) (h1 := (SH, s)) rfl ?_
      obtain ⟨τ1, hJ1, hJ⟩ := m_b1 hJ
      rw [← Option.some.inj hJ] at hC
      exact Rn_weaken (a := [none, none, none]) (b := [some (.ref 88), none, none]) trivial rfl (k_X12_next0_208 d hJ1 hC)
  · replace hJ := m_ifn h37 hJ
    refine Rn_sq srt215 68 7 (pc' := (if ((s.1 88 18) + (ci 4)) ≤ (s.1 88 16) then 176 else 153)) (ls' := [some (.ref 88), none, none]) (st' := []) (h1 := (SH, s)) rfl (Rn_if (fun h40 => ?_) (fun h40 => ?_))
    · replace hJ := m_ifp h40 hJ
      exact (k_X12_next0_176 d hJ hC)
    · replace hJ := m_ifn h40 hJ
      refine Rn_sq srt215 75 8 (pc' := 166) (ls' := [some (.ref 88), none, none]) (st' := [(.int (s.1 88 16)), (.ref 88), (.int ((c8 10) * (s.1 88 19))), (.ref 88)]) (h1 := (SH, s)) rfl ?_
      obtain ⟨v43, h42, hJ⟩ := m_b1 hJ
      refine Rn_call srt215 83 rfl rfl rfl ⟨Nat.le_of_ble_eq_true rfl, Nat.le_of_ble_eq_true rfl, rfl, Nat.le_of_ble_eq_true rfl⟩ (k_X12_see (d + 8) h42) (show Rn N xs (d + 9) me215 169 [some (.ref 88), none, none] [(.int v43), (.int ((c8 10) * (s.1 88 19))), (.ref 88)] (SH, s) r from ?_)
      extract_lets +onlyGivenNames s44 at hJ
      refine Rn_sq srt215 84 4 (pc' := 176) (ls' := [some (.ref 88), none, none]) (st' := []) (h1 := (SH, s44)) rfl ?_
      exact (k_X12_next0_176 d hJ hC)
def F_X12_next0_L126 (s : mG) : Option (mG) := whl (fun (v : (mG)) => F_X12_next0_B126 v) s
theorem k_X12_next0_L126 {N : Nat} {xs : Nat → Int32} (d : Nat) {r : Option Value × mH} {s : mG} {τ : (mG)} (hJ : F_X12_next0_L126 s = some τ) (hC : (fun τ => r = (none, (SH, τ))) τ) : Rn N xs (d + 9) me215 126 [some (.ref 88), none, none] [] (SH, s) r :=
  whl_link (P := fun (v : (mG)) => Rn N xs (d + 9) me215 126 [some (.ref 88), none, none] [] (SH, v) r) (C := (C_X12_next0_126 N xs d r (fun τ => r = (none, (SH, τ))))) (fun v τ h1 h2 => k_X12_next0_B126 d h1 h2) (fun _ h => h) (fun _ h => h) _ _ hJ hC
def C_X12_next0_76 (N : Nat) (xs : Nat → Int32) (d : Nat) (r : Option Value × mH) (C : (mG) → Prop) : ((mG) ⊕ (mG)) → Prop
  | .inl v => Rn N xs (d + 9) me215 76 [some (.ref 88), none, none] [] (SH, v) r
  | .inr a => C a
def F_X12_next0_B76 (s : mG) : Option ((mG) ⊕ (mG)) :=
  b1 (F_X12_see s (s.1 88 16)) fun v46 =>
  b1 (F_X12_isLetter s v46) fun v48 =>
  if v48 = 0 then
    b1 (F_X12_word s) fun v51 =>
    let s52 : mG := (mu s.1 88 17 v51, s.2)
    some (Sum.inr s52)
  else
    let s53 : mG := (mu s.1 88 16 ((s.1 88 16) + (ci 1)), s.2)
    some (Sum.inl s53)
set_option maxRecDepth 4000 in
theorem k_X12_next0_B76 {N : Nat} {xs : Nat → Int32} (d : Nat) {r : Option Value × mH} {s : mG} {τ : ((mG) ⊕ (mG))} (hJ : F_X12_next0_B76 s = some τ) (hC : (C_X12_next0_76 N xs d r (fun τ => r = (none, (SH, τ)))) τ) : Rn N xs (d + 9) me215 76 [some (.ref 88), none, none] [] (SH, s) r := by
  unfold F_X12_next0_B76 at hJ
  refine Rn_sq srt215 38 3 (pc' := 81) (ls' := [some (.ref 88), none, none]) (st' := [(.int (s.1 88 16)), (.ref 88)]) (h1 := (SH, s)) rfl ?_
  obtain ⟨v46, h45, hJ⟩ := m_b1 hJ
  refine Rn_call srt215 41 rfl rfl rfl ⟨Nat.le_of_ble_eq_true rfl, Nat.le_of_ble_eq_true rfl, rfl, Nat.le_of_ble_eq_true rfl⟩ (k_X12_see (d + 8) h45) (show Rn N xs (d + 9) me215 84 [some (.ref 88), none, none] [(.int v46)] (SH, s) r from ?_)
  obtain ⟨v48, h47, hJ⟩ := m_b1 hJ
  refine Rn_call srt215 42 rfl rfl rfl ⟨Nat.le_of_ble_eq_true rfl, Nat.le_of_ble_eq_true rfl, rfl, Nat.le_of_ble_eq_true rfl⟩ (k_X12_isLetter (d + 7) h47) (show Rn N xs (d + 9) me215 87 [some (.ref 88), none, none] [(.int v48)] (SH, s) r from ?_)
  refine Rn_sq srt215 43 1 (pc' := (if v48 = 0 then 103 else 90)) (ls' := [some (.ref 88), none, none]) (st' := []) (h1 := (SH, s)) rfl (Rn_if (fun h49 => ?_) (fun h49 => ?_))
  · replace hJ := m_ifp h49 hJ
    refine Rn_sq srt215 51 2 (pc' := 105) (ls' := [some (.ref 88), none, none]) (st' := [(.ref 88), (.ref 88)]) (h1 := (SH, s)) rfl ?_
    obtain ⟨v51, h50, hJ⟩ := m_b1 hJ
    refine Rn_call srt215 53 rfl rfl rfl ⟨Nat.le_of_ble_eq_true rfl, Nat.le_of_ble_eq_true rfl, rfl, Nat.le_of_ble_eq_true rfl⟩ (k_X12_word (d) h50) (show Rn N xs (d + 9) me215 108 [some (.ref 88), none, none] [(.int v51), (.ref 88)] (SH, s) r from ?_)
    extract_lets +onlyGivenNames s52 at hJ
    refine Rn_sq srt215 54 2 (pc' := 306) (ls' := [some (.ref 88), none, none]) (st' := []) (h1 := (SH, s52)) rfl ?_
    rw [← Option.some.inj hJ] at hC
    have hC : r = (none, (SH, s52)) := hC
    subst hC
    exact Rn_ret srt215 157 rfl rfl rfl
  · replace hJ := m_ifn h49 hJ
    extract_lets +onlyGivenNames s53 at hJ
    refine Rn_sq srt215 44 7 (pc' := 76) (ls' := [some (.ref 88), none, none]) (st' := []) (h1 := (SH, s53)) rfl ?_
    rw [← Option.some.inj hJ] at hC
    exact hC
def F_X12_next0_L76 (s : mG) : Option (mG) := whl (fun (v : (mG)) => F_X12_next0_B76 v) s
theorem k_X12_next0_L76 {N : Nat} {xs : Nat → Int32} (d : Nat) {r : Option Value × mH} {s : mG} {τ : (mG)} (hJ : F_X12_next0_L76 s = some τ) (hC : (fun τ => r = (none, (SH, τ))) τ) : Rn N xs (d + 9) me215 76 [some (.ref 88), none, none] [] (SH, s) r :=
  whl_link (P := fun (v : (mG)) => Rn N xs (d + 9) me215 76 [some (.ref 88), none, none] [] (SH, v) r) (C := (C_X12_next0_76 N xs d r (fun τ => r = (none, (SH, τ))))) (fun v τ h1 h2 => k_X12_next0_B76 d h1 h2) (fun _ h => h) (fun _ h => h) _ _ hJ hC
def F_X12_next0_B0 (s : mG) : Option ((mG) ⊕ (mG)) :=
  b1 (F_X12_see s (s.1 88 16)) fun v2 =>
  if v2 = (c8 32) then
    F_X12_next0_26 s
  else
    b1 (F_X12_see s (s.1 88 16)) fun v6 =>
    if v6 = (c8 10) then
      F_X12_next0_26 s
    else
      let s8 : mG := (mu s.1 88 18 (s.1 88 16), s.2)
      b1 (F_X12_see s8 (s8.1 88 16)) fun v10 =>
      if v10 = (ci (-1)) then
        let s12 : mG := (mu s8.1 88 17 (ci 0), s8.2)
        some (Sum.inr s12)
      else
        b1 (F_X12_isLetter s8 v10) fun v14 =>
        if v14 = 0 then
          b1 (F_X12_isDigit s8 v10) fun v17 =>
          if v17 = 0 then
            let s19 : mG := (mu s8.1 88 16 ((s8.1 88 16) + (ci 1)), s8.2)
            if v10 = (c8 59) then
              b1 (F_X12_next0_284 v10 s19) fun τ => some (Sum.inr τ)
            else
              if v10 = (c8 43) then
                b1 (F_X12_next0_284 v10 s19) fun τ => some (Sum.inr τ)
              else
                if v10 = (c8 45) then
                  b1 (F_X12_next0_284 v10 s19) fun τ => some (Sum.inr τ)
                else
                  if v10 = (c8 42) then
                    b1 (F_X12_next0_284 v10 s19) fun τ => some (Sum.inr τ)
                  else
                    if v10 = (c8 47) then
                      b1 (F_X12_next0_284 v10 s19) fun τ => some (Sum.inr τ)
                    else
                      if v10 = (c8 40) then
                        b1 (F_X12_next0_284 v10 s19) fun τ => some (Sum.inr τ)
                      else
                        if v10 = (c8 41) then
                          b1 (F_X12_next0_284 v10 s19) fun τ => some (Sum.inr τ)
                        else
                          if v10 = (c8 60) then
                            b1 (F_X12_next0_284 v10 s19) fun τ => some (Sum.inr τ)
                          else
                            if v10 = (c8 61) then
                              b1 (F_X12_next0_284 v10 s19) fun τ => some (Sum.inr τ)
                            else
                              if v10 = (c8 62) then
                                b1 (F_X12_next0_284 v10 s19) fun τ => some (Sum.inr τ)
                              else
                                b1 (F_X12_next0_289 v10 (ci 0) s19) fun τ => some (Sum.inr τ)
          else
            let s32 : mG := (mu s8.1 88 19 (ci 0), s8.2)
            b1 (F_X12_next0_L126 s32) fun τ => some (Sum.inr τ)
        else
          b1 (F_X12_next0_L76 s8) fun τ => some (Sum.inr τ)
set_option maxRecDepth 4000 in
theorem k_X12_next0_B0 {N : Nat} {xs : Nat → Int32} (d : Nat) {r : Option Value × mH} {s : mG} {τ : ((mG) ⊕ (mG))} (hJ : F_X12_next0_B0 s = some τ) (hC : (C_X12_next0_0 N xs d r (fun τ => r = (none, (SH, τ)))) τ) : Rn N xs (d + 9) me215 0 [some (.ref 88), none, none] [] (SH, s) r := by
  unfold F_X12_next0_B0 at hJ
  refine Rn_sq srt215 0 3 (pc' := 5) (ls' := [some (.ref 88), none, none]) (st' := [(.int (s.1 88 16)), (.ref 88)]) (h1 := (SH, s)) rfl ?_
  obtain ⟨v2, h1, hJ⟩ := m_b1 hJ
  refine Rn_call srt215 3 rfl rfl rfl ⟨Nat.le_of_ble_eq_true rfl, Nat.le_of_ble_eq_true rfl, rfl, Nat.le_of_ble_eq_true rfl⟩ (k_X12_see (d + 8) h1) (show Rn N xs (d + 9) me215 8 [some (.ref 88), none, none] [(.int v2)] (SH, s) r from ?_)
  refine Rn_sq srt215 4 2 (pc' := (if v2 = (c8 32) then 26 else 13)) (ls' := [some (.ref 88), none, none]) (st' := []) (h1 := (SH, s)) rfl (Rn_if (fun h3 => ?_) (fun h3 => ?_))
  · replace hJ := m_ifp h3 hJ
    exact (k_X12_next0_26 d hJ hC)
  · replace hJ := m_ifn h3 hJ
    refine Rn_sq srt215 6 3 (pc' := 18) (ls' := [some (.ref 88), none, none]) (st' := [(.int (s.1 88 16)), (.ref 88)]) (h1 := (SH, s)) rfl ?_
    obtain ⟨v6, h5, hJ⟩ := m_b1 hJ
    refine Rn_call srt215 9 rfl rfl rfl ⟨Nat.le_of_ble_eq_true rfl, Nat.le_of_ble_eq_true rfl, rfl, Nat.le_of_ble_eq_true rfl⟩ (k_X12_see (d + 8) h5) (show Rn N xs (d + 9) me215 21 [some (.ref 88), none, none] [(.int v6)] (SH, s) r from ?_)
    refine Rn_sq srt215 10 2 (pc' := (if v6 = (c8 10) then 26 else 39)) (ls' := [some (.ref 88), none, none]) (st' := []) (h1 := (SH, s)) rfl (Rn_if (fun h7 => ?_) (fun h7 => ?_))
    · replace hJ := m_ifp h7 hJ
      exact (k_X12_next0_26 d hJ hC)
    · replace hJ := m_ifn h7 hJ
      extract_lets +onlyGivenNames s8 at hJ
      refine Rn_sq srt215 19 7 (pc' := 52) (ls' := [some (.ref 88), none, none]) (st' := [(.int (s8.1 88 16)), (.ref 88)]) (h1 := (SH, s8)) rfl ?_
      obtain ⟨v10, h9, hJ⟩ := m_b1 hJ
      refine Rn_call srt215 26 rfl rfl rfl ⟨Nat.le_of_ble_eq_true rfl, Nat.le_of_ble_eq_true rfl, rfl, Nat.le_of_ble_eq_true rfl⟩ (k_X12_see (d + 8) h9) (show Rn N xs (d + 9) me215 55 [some (.ref 88), none, none] [(.int v10)] (SH, s8) r from ?_)
      refine Rn_sq srt215 27 4 (pc' := (if v10 = (ci (-1)) then 61 else 69)) (ls' := [some (.ref 88), some (.int v10), none]) (st' := []) (h1 := (SH, s8)) rfl (Rn_if (fun h11 => ?_) (fun h11 => ?_))
      · replace hJ := m_ifp h11 hJ
        extract_lets +onlyGivenNames s12 at hJ
        refine Rn_sq srt215 31 4 (pc' := 306) (ls' := [some (.ref 88), some (.int v10), none]) (st' := []) (h1 := (SH, s12)) rfl ?_
        rw [← Option.some.inj hJ] at hC
        have hC : r = (none, (SH, s12)) := hC
        subst hC
        exact Rn_ret srt215 157 rfl rfl rfl
      · replace hJ := m_ifn h11 hJ
        refine Rn_sq srt215 35 1 (pc' := 70) (ls' := [some (.ref 88), some (.int v10), none]) (st' := [(.int v10)]) (h1 := (SH, s8)) rfl ?_
        obtain ⟨v14, h13, hJ⟩ := m_b1 hJ
        refine Rn_call srt215 36 rfl rfl rfl ⟨Nat.le_of_ble_eq_true rfl, Nat.le_of_ble_eq_true rfl, rfl, Nat.le_of_ble_eq_true rfl⟩ (k_X12_isLetter (d + 7) h13) (show Rn N xs (d + 9) me215 73 [some (.ref 88), some (.int v10), none] [(.int v14)] (SH, s8) r from ?_)
        refine Rn_sq srt215 37 1 (pc' := (if v14 = 0 then 114 else 76)) (ls' := [some (.ref 88), some (.int v10), none]) (st' := []) (h1 := (SH, s8)) rfl (Rn_if (fun h15 => ?_) (fun h15 => ?_))
        · replace hJ := m_ifp h15 hJ
          refine Rn_sq srt215 56 1 (pc' := 115) (ls' := [some (.ref 88), some (.int v10), none]) (st' := [(.int v10)]) (h1 := (SH, s8)) rfl ?_
          obtain ⟨v17, h16, hJ⟩ := m_b1 hJ
          refine Rn_call srt215 57 rfl rfl rfl ⟨Nat.le_of_ble_eq_true rfl, Nat.le_of_ble_eq_true rfl, rfl, Nat.le_of_ble_eq_true rfl⟩ (k_X12_isDigit (d + 7) h16) (show Rn N xs (d + 9) me215 118 [some (.ref 88), some (.int v10), none] [(.int v17)] (SH, s8) r from ?_)
          refine Rn_sq srt215 58 1 (pc' := (if v17 = 0 then 214 else 121)) (ls' := [some (.ref 88), some (.int v10), none]) (st' := []) (h1 := (SH, s8)) rfl (Rn_if (fun h18 => ?_) (fun h18 => ?_))
          · replace hJ := m_ifp h18 hJ
            extract_lets +onlyGivenNames s19 at hJ
            refine Rn_sq srt215 108 9 (pc' := (if v10 = (c8 59) then 284 else 230)) (ls' := [some (.ref 88), some (.int v10), none]) (st' := []) (h1 := (SH, s19)) rfl (Rn_if (fun h20 => ?_) (fun h20 => ?_))
            · replace hJ := m_ifp h20 hJ
              obtain ⟨τ1, hJ1, hJ⟩ := m_b1 hJ
              rw [← Option.some.inj hJ] at hC
              exact (k_X12_next0_284 d hJ1 hC)
            · replace hJ := m_ifn h20 hJ
              refine Rn_sq srt215 117 3 (pc' := (if v10 = (c8 43) then 284 else 236)) (ls' := [some (.ref 88), some (.int v10), none]) (st' := []) (h1 := (SH, s19)) rfl (Rn_if (fun h23 => ?_) (fun h23 => ?_))
              · replace hJ := m_ifp h23 hJ
                obtain ⟨τ1, hJ1, hJ⟩ := m_b1 hJ
                rw [← Option.some.inj hJ] at hC
                exact (k_X12_next0_284 d hJ1 hC)
              · replace hJ := m_ifn h23 hJ
                refine Rn_sq srt215 120 3 (pc' := (if v10 = (c8 45) then 284 else 242)) (ls' := [some (.ref 88), some (.int v10), none]) (st' := []) (h1 := (SH, s19)) rfl (Rn_if (fun h24 => ?_) (fun h24 => ?_))
                · replace hJ := m_ifp h24 hJ
                  obtain ⟨τ1, hJ1, hJ⟩ := m_b1 hJ
                  rw [← Option.some.inj hJ] at hC
                  exact (k_X12_next0_284 d hJ1 hC)
                · replace hJ := m_ifn h24 hJ
                  refine Rn_sq srt215 123 3 (pc' := (if v10 = (c8 42) then 284 else 248)) (ls' := [some (.ref 88), some (.int v10), none]) (st' := []) (h1 := (SH, s19)) rfl (Rn_if (fun h25 => ?_) (fun h25 => ?_))
                  · replace hJ := m_ifp h25 hJ
                    obtain ⟨τ1, hJ1, hJ⟩ := m_b1 hJ
                    rw [← Option.some.inj hJ] at hC
                    exact (k_X12_next0_284 d hJ1 hC)
                  · replace hJ := m_ifn h25 hJ
                    refine Rn_sq srt215 126 3 (pc' := (if v10 = (c8 47) then 284 else 254)) (ls' := [some (.ref 88), some (.int v10), none]) (st' := []) (h1 := (SH, s19)) rfl (Rn_if (fun h26 => ?_) (fun h26 => ?_))
                    · replace hJ := m_ifp h26 hJ
                      obtain ⟨τ1, hJ1, hJ⟩ := m_b1 hJ
                      rw [← Option.some.inj hJ] at hC
                      exact (k_X12_next0_284 d hJ1 hC)
                    · replace hJ := m_ifn h26 hJ
                      refine Rn_sq srt215 129 3 (pc' := (if v10 = (c8 40) then 284 else 260)) (ls' := [some (.ref 88), some (.int v10), none]) (st' := []) (h1 := (SH, s19)) rfl (Rn_if (fun h27 => ?_) (fun h27 => ?_))
                      · replace hJ := m_ifp h27 hJ
                        obtain ⟨τ1, hJ1, hJ⟩ := m_b1 hJ
                        rw [← Option.some.inj hJ] at hC
                        exact (k_X12_next0_284 d hJ1 hC)
                      · replace hJ := m_ifn h27 hJ
                        refine Rn_sq srt215 132 3 (pc' := (if v10 = (c8 41) then 284 else 266)) (ls' := [some (.ref 88), some (.int v10), none]) (st' := []) (h1 := (SH, s19)) rfl (Rn_if (fun h28 => ?_) (fun h28 => ?_))
                        · replace hJ := m_ifp h28 hJ
                          obtain ⟨τ1, hJ1, hJ⟩ := m_b1 hJ
                          rw [← Option.some.inj hJ] at hC
                          exact (k_X12_next0_284 d hJ1 hC)
                        · replace hJ := m_ifn h28 hJ
                          refine Rn_sq srt215 135 3 (pc' := (if v10 = (c8 60) then 284 else 272)) (ls' := [some (.ref 88), some (.int v10), none]) (st' := []) (h1 := (SH, s19)) rfl (Rn_if (fun h29 => ?_) (fun h29 => ?_))
                          · replace hJ := m_ifp h29 hJ
                            obtain ⟨τ1, hJ1, hJ⟩ := m_b1 hJ
                            rw [← Option.some.inj hJ] at hC
                            exact (k_X12_next0_284 d hJ1 hC)
                          · replace hJ := m_ifn h29 hJ
                            refine Rn_sq srt215 138 3 (pc' := (if v10 = (c8 61) then 284 else 278)) (ls' := [some (.ref 88), some (.int v10), none]) (st' := []) (h1 := (SH, s19)) rfl (Rn_if (fun h30 => ?_) (fun h30 => ?_))
                            · replace hJ := m_ifp h30 hJ
                              obtain ⟨τ1, hJ1, hJ⟩ := m_b1 hJ
                              rw [← Option.some.inj hJ] at hC
                              exact (k_X12_next0_284 d hJ1 hC)
                            · replace hJ := m_ifn h30 hJ
                              refine Rn_sq srt215 141 3 (pc' := (if v10 = (c8 62) then 284 else 288)) (ls' := [some (.ref 88), some (.int v10), none]) (st' := []) (h1 := (SH, s19)) rfl (Rn_if (fun h31 => ?_) (fun h31 => ?_))
                              · replace hJ := m_ifp h31 hJ
                                obtain ⟨τ1, hJ1, hJ⟩ := m_b1 hJ
                                rw [← Option.some.inj hJ] at hC
                                exact (k_X12_next0_284 d hJ1 hC)
                              · replace hJ := m_ifn h31 hJ
                                refine Rn_sq srt215 146 1 (pc' := 289) (ls' := [some (.ref 88), some (.int v10), none]) (st' := [(.int (ci 0))]) (h1 := (SH, s19)) rfl ?_
                                obtain ⟨τ1, hJ1, hJ⟩ := m_b1 hJ
                                rw [← Option.some.inj hJ] at hC
                                exact (k_X12_next0_289 d hJ1 hC)
          · replace hJ := m_ifn h18 hJ
            extract_lets +onlyGivenNames s32 at hJ
            refine Rn_sq srt215 59 3 (pc' := 126) (ls' := [some (.ref 88), some (.int v10), none]) (st' := []) (h1 := (SH, s32)) rfl ?_
            obtain ⟨τ1, hJ1, hJ⟩ := m_b1 hJ
            rw [← Option.some.inj hJ] at hC
            exact Rn_weaken (a := [some (.ref 88), none, none]) (b := [some (.ref 88), some (.int v10), none]) (And.intro rfl trivial) rfl (k_X12_next0_L126 d hJ1 hC)
        · replace hJ := m_ifn h15 hJ
          obtain ⟨τ1, hJ1, hJ⟩ := m_b1 hJ
          rw [← Option.some.inj hJ] at hC
          exact Rn_weaken (a := [some (.ref 88), none, none]) (b := [some (.ref 88), some (.int v10), none]) (And.intro rfl trivial) rfl (k_X12_next0_L76 d hJ1 hC)
def F_X12_next0_L0 (s : mG) : Option (mG) := whl (fun (v : (mG)) => F_X12_next0_B0 v) s
theorem k_X12_next0_L0 {N : Nat} {xs : Nat → Int32} (d : Nat) {r : Option Value × mH} {s : mG} {τ : (mG)} (hJ : F_X12_next0_L0 s = some τ) (hC : (fun τ => r = (none, (SH, τ))) τ) : Rn N xs (d + 9) me215 0 [some (.ref 88), none, none] [] (SH, s) r :=
  whl_link (P := fun (v : (mG)) => Rn N xs (d + 9) me215 0 [some (.ref 88), none, none] [] (SH, v) r) (C := (C_X12_next0_0 N xs d r (fun τ => r = (none, (SH, τ))))) (fun v τ h1 h2 => k_X12_next0_B0 d h1 h2) (fun _ h => h) (fun _ h => h) _ _ hJ hC
def F_X12_next0 (s : mG) : Option (mG) :=
  F_X12_next0_L0 s
set_option maxRecDepth 4000 in
theorem k_X12_next0_r {N : Nat} {xs : Nat → Int32} (d : Nat) {r : Option Value × mH} {s : mG} {τ : (mG)} (hJ : F_X12_next0 s = some τ) (hC : (fun τ => r = (none, (SH, τ))) τ) : Rn N xs (d + 9) me215 0 [some (.ref 88), none, none] [] (SH, s) r := by
  unfold F_X12_next0 at hJ
  exact (k_X12_next0_L0 d hJ hC)
theorem k_X12_next0 {N : Nat} {xs : Nat → Int32} (d : Nat) {s : mG} {τ : (mG)} (hJ : F_X12_next0 s = some τ) : Rn N xs (d + 9) me215 0 [some (.ref 88), none, none] [] (SH, s) (none, (SH, τ)) := k_X12_next0_r d hJ rfl
/-! IsHeInModel.bad(I)Z -/
theorem srt216 : m_srt mc216 = true := by decide +kernel
def F_X12_bad (a1 : Int32) (s : mG) : Option (Int32 × mG) :=
  let s1 : mG := (mu s.1 88 20 a1, s.2)
  let s2 : mG := (mu s1.1 88 21 (s1.1 88 18), s1.2)
  some ((ci 0), s2)
set_option maxRecDepth 4000 in
theorem k_X12_bad_r {N : Nat} {xs : Nat → Int32} (d : Nat) {r : Option Value × mH} {s : mG} {a1 : Int32} {τ : (Int32 × mG)} (hJ : F_X12_bad a1 s = some τ) (hC : (fun τ => r = (some (.int τ.1), (SH, τ.2))) τ) : Rn N xs (d + 0) me216 0 [some (.ref 88), some (.int a1)] [] (SH, s) r := by
  unfold F_X12_bad at hJ
  extract_lets +onlyGivenNames s1 at hJ
  extract_lets +onlyGivenNames s2 at hJ
  refine Rn_sq srt216 0 8 (pc' := 14) (ls' := [some (.ref 88), some (.int a1)]) (st' := [(.int (ci 0))]) (h1 := (SH, s2)) rfl ?_
  rw [← Option.some.inj hJ] at hC
  have hC : r = (some (.int (ci 0)), (SH, s2)) := hC
  subst hC
  exact Rn_ret srt216 8 rfl rfl (m_ret_b rfl (by decide))
theorem k_X12_bad {N : Nat} {xs : Nat → Int32} (d : Nat) {s : mG} {a1 : Int32} {τ : (Int32 × mG)} (hJ : F_X12_bad a1 s = some τ) : Rn N xs (d + 0) me216 0 [some (.ref 88), some (.int a1)] [] (SH, s) (some (.int τ.1), (SH, τ.2)) := k_X12_bad_r d hJ rfl
/-! IsHeInModel.need(I)Z -/
theorem srt217 : m_srt mc217 = true := by decide +kernel
def F_X12_need (a1 : Int32) (s : mG) : Option (Int32 × mG) :=
  if (s.1 88 17) = a1 then
    b1 (F_X12_next0 s) fun s3 =>
    some ((ci 1), s3)
  else
    b2 (F_X12_bad (ci 1) s) fun v6 s5 =>
    if v6 = 0 ∨ v6 = 1 then
      some (v6, s5)
    else none
set_option maxRecDepth 4000 in
theorem k_X12_need_r {N : Nat} {xs : Nat → Int32} (d : Nat) {r : Option Value × mH} {s : mG} {a1 : Int32} {τ : (Int32 × mG)} (hJ : F_X12_need a1 s = some τ) (hC : (fun τ => r = (some (.int τ.1), (SH, τ.2))) τ) : Rn N xs (d + 10) me217 0 [some (.ref 88), some (.int a1)] [] (SH, s) r := by
  unfold F_X12_need at hJ
  refine Rn_sq srt217 0 4 (pc' := (if (s.1 88 17) = a1 then 14 else 8)) (ls' := [some (.ref 88), some (.int a1)]) (st' := []) (h1 := (SH, s)) rfl (Rn_if (fun h1 => ?_) (fun h1 => ?_))
  · replace hJ := m_ifp h1 hJ
    refine Rn_sq srt217 8 1 (pc' := 15) (ls' := [some (.ref 88), some (.int a1)]) (st' := [(.ref 88)]) (h1 := (SH, s)) rfl ?_
    obtain ⟨s3, h2, hJ⟩ := m_b1 hJ
    refine Rn_call srt217 9 rfl rfl rfl ⟨Nat.le_of_ble_eq_true rfl, Nat.le_of_ble_eq_true rfl, rfl, Nat.le_of_ble_eq_true rfl⟩ (k_X12_next0 (d) h2) (show Rn N xs (d + 10) me217 18 [some (.ref 88), some (.int a1)] [] (SH, s3) r from ?_)
    refine Rn_sq srt217 10 1 (pc' := 19) (ls' := [some (.ref 88), some (.int a1)]) (st' := [(.int (ci 1))]) (h1 := (SH, s3)) rfl ?_
    rw [← Option.some.inj hJ] at hC
    have hC : r = (some (.int (ci 1)), (SH, s3)) := hC
    subst hC
    exact Rn_ret srt217 11 rfl rfl (m_ret_b rfl (by decide))
  · replace hJ := m_ifn h1 hJ
    refine Rn_sq srt217 4 2 (pc' := 10) (ls' := [some (.ref 88), some (.int a1)]) (st' := [(.int (ci 1)), (.ref 88)]) (h1 := (SH, s)) rfl ?_
    obtain ⟨v6, s5, h4, hJ⟩ := m_b2 hJ
    refine Rn_call srt217 6 rfl rfl rfl ⟨Nat.le_of_ble_eq_true rfl, Nat.le_of_ble_eq_true rfl, rfl, Nat.le_of_ble_eq_true rfl⟩ (k_X12_bad (d + 9) h4) (show Rn N xs (d + 10) me217 13 [some (.ref 88), some (.int a1)] [(.int v6)] (SH, s5) r from ?_)
    obtain ⟨h7, hJ⟩ := m_gp hJ
    rw [← Option.some.inj hJ] at hC
    have hC : r = (some (.int v6), (SH, s5)) := hC
    subst hC
    exact Rn_ret srt217 7 rfl rfl (m_ret_b rfl h7)
theorem k_X12_need {N : Nat} {xs : Nat → Int32} (d : Nat) {s : mG} {a1 : Int32} {τ : (Int32 × mG)} (hJ : F_X12_need a1 s = some τ) : Rn N xs (d + 10) me217 0 [some (.ref 88), some (.int a1)] [] (SH, s) (some (.int τ.1), (SH, τ.2)) := k_X12_need_r d hJ rfl
/-! IsHeInModel.lay(II)V -/
theorem srt218 : m_srt mc218 = true := by decide +kernel
def F_X12_lay (a1 : Int32) (a2 : Int32) (s : mG) : Option (mG) :=
  if ((ci 2) * (s.1 88 13)) < 0 ∨ 820 ≤ ((ci 2) * (s.1 88 13)).toNatClampNeg then none else
  let s2 : mG := (mu s.1 93 ((ci 2) * (s.1 88 13)).toNatClampNeg a1, s.2)
  if (((ci 2) * (s2.1 88 13)) + (ci 1)) < 0 ∨ 820 ≤ (((ci 2) * (s2.1 88 13)) + (ci 1)).toNatClampNeg then none else
  let s4 : mG := (mu s2.1 93 (((ci 2) * (s2.1 88 13)) + (ci 1)).toNatClampNeg a2, s2.2)
  let s5 : mG := (mu s4.1 88 13 ((s4.1 88 13) + (ci 1)), s4.2)
  some s5
set_option maxRecDepth 4000 in
theorem k_X12_lay_r {N : Nat} {xs : Nat → Int32} (d : Nat) {r : Option Value × mH} {s : mG} {a1 : Int32} {a2 : Int32} {τ : (mG)} (hJ : F_X12_lay a1 a2 s = some τ) (hC : (fun τ => r = (none, (SH, τ))) τ) : Rn N xs (d + 0) me218 0 [some (.ref 88), some (.int a1), some (.int a2)] [] (SH, s) r := by
  unfold F_X12_lay at hJ
  refine Rn_sq srt218 0 7 (pc' := 11) (ls' := [some (.ref 88), some (.int a1), some (.int a2)]) (st' := [(.int a1), (.int ((ci 2) * (s.1 88 13))), (.ref 93)]) (h1 := (SH, s)) rfl ?_
  obtain ⟨h1, hJ⟩ := m_gn hJ
  extract_lets +onlyGivenNames s2 at hJ
  refine Rn_ev srt218 7 rfl rfl rfl (op_ias sh93 h1 (k := ((ci 2) * (s.1 88 13)).toNatClampNeg) rfl) ?_
  refine Rn_sq srt218 8 9 (pc' := 25) (ls' := [some (.ref 88), some (.int a1), some (.int a2)]) (st' := [(.int a2), (.int (((ci 2) * (s2.1 88 13)) + (ci 1))), (.ref 93)]) (h1 := (SH, s2)) rfl ?_
  obtain ⟨h3, hJ⟩ := m_gn hJ
  extract_lets +onlyGivenNames s4 at hJ
  refine Rn_ev srt218 17 rfl rfl rfl (op_ias sh93 h3 (k := (((ci 2) * (s2.1 88 13)) + (ci 1)).toNatClampNeg) rfl) ?_
  extract_lets +onlyGivenNames s5 at hJ
  refine Rn_sq srt218 18 6 (pc' := 36) (ls' := [some (.ref 88), some (.int a1), some (.int a2)]) (st' := []) (h1 := (SH, s5)) rfl ?_
  rw [← Option.some.inj hJ] at hC
  have hC : r = (none, (SH, s5)) := hC
  subst hC
  exact Rn_ret srt218 24 rfl rfl rfl
theorem k_X12_lay {N : Nat} {xs : Nat → Int32} (d : Nat) {s : mG} {a1 : Int32} {a2 : Int32} {τ : (mG)} (hJ : F_X12_lay a1 a2 s = some τ) : Rn N xs (d + 0) me218 0 [some (.ref 88), some (.int a1), some (.int a2)] [] (SH, s) (none, (SH, τ)) := k_X12_lay_r d hJ rfl
/-! IsHeInModel.opens()Z -/
theorem srt219 : m_srt mc219 = true := by decide +kernel
def F_X12_opens (s : mG) : Option (Int32 × mG) :=
  if (s.1 88 23) = (c8 8) then
    b2 (F_X12_bad (ci 3) s) fun v4 s3 =>
    if v4 = 0 ∨ v4 = 1 then
      some (v4, s3)
    else none
  else
    let s6 : mG := (mu s.1 88 23 ((s.1 88 23) + (ci 1)), s.2)
    b1 (F_X12_next0 s6) fun s8 =>
    some ((ci 1), s8)
set_option maxRecDepth 4000 in
theorem k_X12_opens_r {N : Nat} {xs : Nat → Int32} (d : Nat) {r : Option Value × mH} {s : mG} {τ : (Int32 × mG)} (hJ : F_X12_opens s = some τ) (hC : (fun τ => r = (some (.int τ.1), (SH, τ.2))) τ) : Rn N xs (d + 10) me219 0 [some (.ref 88)] [] (SH, s) r := by
  unfold F_X12_opens at hJ
  refine Rn_sq srt219 0 4 (pc' := (if (s.1 88 23) = (c8 8) then 9 else 15)) (ls' := [some (.ref 88)]) (st' := []) (h1 := (SH, s)) rfl (Rn_if (fun h1 => ?_) (fun h1 => ?_))
  · replace hJ := m_ifp h1 hJ
    refine Rn_sq srt219 4 2 (pc' := 11) (ls' := [some (.ref 88)]) (st' := [(.int (ci 3)), (.ref 88)]) (h1 := (SH, s)) rfl ?_
    obtain ⟨v4, s3, h2, hJ⟩ := m_b2 hJ
    refine Rn_call srt219 6 rfl rfl rfl ⟨Nat.le_of_ble_eq_true rfl, Nat.le_of_ble_eq_true rfl, rfl, Nat.le_of_ble_eq_true rfl⟩ (k_X12_bad (d + 9) h2) (show Rn N xs (d + 10) me219 14 [some (.ref 88)] [(.int v4)] (SH, s3) r from ?_)
    obtain ⟨h5, hJ⟩ := m_gp hJ
    rw [← Option.some.inj hJ] at hC
    have hC : r = (some (.int v4), (SH, s3)) := hC
    subst hC
    exact Rn_ret srt219 7 rfl rfl (m_ret_b rfl h5)
  · replace hJ := m_ifn h1 hJ
    extract_lets +onlyGivenNames s6 at hJ
    refine Rn_sq srt219 8 7 (pc' := 26) (ls' := [some (.ref 88)]) (st' := [(.ref 88)]) (h1 := (SH, s6)) rfl ?_
    obtain ⟨s8, h7, hJ⟩ := m_b1 hJ
    refine Rn_call srt219 15 rfl rfl rfl ⟨Nat.le_of_ble_eq_true rfl, Nat.le_of_ble_eq_true rfl, rfl, Nat.le_of_ble_eq_true rfl⟩ (k_X12_next0 (d) h7) (show Rn N xs (d + 10) me219 29 [some (.ref 88)] [] (SH, s8) r from ?_)
    refine Rn_sq srt219 16 1 (pc' := 30) (ls' := [some (.ref 88)]) (st' := [(.int (ci 1))]) (h1 := (SH, s8)) rfl ?_
    rw [← Option.some.inj hJ] at hC
    have hC : r = (some (.int (ci 1)), (SH, s8)) := hC
    subst hC
    exact Rn_ret srt219 17 rfl rfl (m_ret_b rfl (by decide))
theorem k_X12_opens {N : Nat} {xs : Nat → Int32} (d : Nat) {s : mG} {τ : (Int32 × mG)} (hJ : F_X12_opens s = some τ) : Rn N xs (d + 10) me219 0 [some (.ref 88)] [] (SH, s) (some (.int τ.1), (SH, τ.2)) := k_X12_opens_r d hJ rfl
/-! IsHeInModel.unit()Z -/
theorem srt222 : m_srt mc222 = true := by decide +kernel
def F_X12_unit_46 (y1 : Int32) (s : mG) : Option (Int32 × mG) :=
  b1 (F_X12_lay y1 (s.1 88 19) s) fun s6 =>
  b1 (F_X12_next0 s6) fun s8 =>
  some ((ci 1), s8)
set_option maxRecDepth 4000 in
theorem k_X12_unit_46 {N : Nat} {xs : Nat → Int32} (d : Nat) {r : Option Value × mH} {s : mG} {y1 : Int32} {τ : (Int32 × mG)} (hJ : F_X12_unit_46 y1 s = some τ) (hC : (fun τ => r = (some (.int τ.1), (SH, τ.2))) τ) : Rn N xs (d + 10) me222 46 [some (.ref 88), none] [(.int y1), (.ref 88)] (SH, s) r := by
  unfold F_X12_unit_46 at hJ
  refine Rn_sq srt222 25 2 (pc' := 50) (ls' := [some (.ref 88), none]) (st' := [(.int (s.1 88 19)), (.int y1), (.ref 88)]) (h1 := (SH, s)) rfl ?_
  obtain ⟨s6, h5, hJ⟩ := m_b1 hJ
  refine Rn_call srt222 27 rfl rfl rfl ⟨Nat.le_of_ble_eq_true rfl, Nat.le_of_ble_eq_true rfl, rfl, Nat.le_of_ble_eq_true rfl⟩ (k_X12_lay (d + 9) h5) (show Rn N xs (d + 10) me222 53 [some (.ref 88), none] [] (SH, s6) r from ?_)
  refine Rn_sq srt222 28 1 (pc' := 54) (ls' := [some (.ref 88), none]) (st' := [(.ref 88)]) (h1 := (SH, s6)) rfl ?_
  obtain ⟨s8, h7, hJ⟩ := m_b1 hJ
  refine Rn_call srt222 29 rfl rfl rfl ⟨Nat.le_of_ble_eq_true rfl, Nat.le_of_ble_eq_true rfl, rfl, Nat.le_of_ble_eq_true rfl⟩ (k_X12_next0 (d) h7) (show Rn N xs (d + 10) me222 57 [some (.ref 88), none] [] (SH, s8) r from ?_)
  refine Rn_sq srt222 30 1 (pc' := 58) (ls' := [some (.ref 88), none]) (st' := [(.int (ci 1))]) (h1 := (SH, s8)) rfl ?_
  rw [← Option.some.inj hJ] at hC
  have hC : r = (some (.int (ci 1)), (SH, s8)) := hC
  subst hC
  exact Rn_ret srt222 31 rfl rfl (m_ret_b rfl (by decide))
def F_X12_unit_30 (x1 : Int32) (s : mG) : Option (Int32 × mG) :=
  if x1 = 0 then
    F_X12_unit_46 (ci 0) s
  else
    F_X12_unit_46 ((s.1 88 17) - (c8 40)) s
set_option maxRecDepth 4000 in
theorem k_X12_unit_30 {N : Nat} {xs : Nat → Int32} (d : Nat) {r : Option Value × mH} {s : mG} {x1 : Int32} {τ : (Int32 × mG)} (hJ : F_X12_unit_30 x1 s = some τ) (hC : (fun τ => r = (some (.int τ.1), (SH, τ.2))) τ) : Rn N xs (d + 10) me222 30 [some (.ref 88), some (.int x1)] [] (SH, s) r := by
  unfold F_X12_unit_30 at hJ
  refine Rn_sq srt222 16 3 (pc' := (if x1 = 0 then 45 else 35)) (ls' := [some (.ref 88), some (.int x1)]) (st' := [(.ref 88)]) (h1 := (SH, s)) rfl (Rn_if (fun h4 => ?_) (fun h4 => ?_))
  · replace hJ := m_ifp h4 hJ
    refine Rn_sq srt222 24 1 (pc' := 46) (ls' := [some (.ref 88), some (.int x1)]) (st' := [(.int (ci 0)), (.ref 88)]) (h1 := (SH, s)) rfl ?_
    exact Rn_weaken (a := [some (.ref 88), none]) (b := [some (.ref 88), some (.int x1)]) (And.intro rfl trivial) rfl (k_X12_unit_46 d hJ hC)
  · replace hJ := m_ifn h4 hJ
    refine Rn_sq srt222 19 5 (pc' := 46) (ls' := [some (.ref 88), some (.int x1)]) (st' := [(.int ((s.1 88 17) - (c8 40))), (.ref 88)]) (h1 := (SH, s)) rfl ?_
    exact Rn_weaken (a := [some (.ref 88), none]) (b := [some (.ref 88), some (.int x1)]) (And.intro rfl trivial) rfl (k_X12_unit_46 d hJ hC)
def F_X12_unit (s : mG) : Option (Int32 × mG) :=
  b1 (F_X12_isIn s (s.1 88 17) (c8 41) (c8 49)) fun v2 =>
  if (s.1 88 17) = (ci 2) then
    F_X12_unit_30 v2 s
  else
    if v2 = 0 then
      b2 (F_X12_bad (ci 1) s) fun v12 s11 =>
      if v12 = 0 ∨ v12 = 1 then
        some (v12, s11)
      else none
    else
      F_X12_unit_30 v2 s
set_option maxRecDepth 4000 in
theorem k_X12_unit_r {N : Nat} {xs : Nat → Int32} (d : Nat) {r : Option Value × mH} {s : mG} {τ : (Int32 × mG)} (hJ : F_X12_unit s = some τ) (hC : (fun τ => r = (some (.int τ.1), (SH, τ.2))) τ) : Rn N xs (d + 10) me222 0 [some (.ref 88), none] [] (SH, s) r := by
  unfold F_X12_unit at hJ
  refine Rn_sq srt222 0 4 (pc' := 8) (ls' := [some (.ref 88), none]) (st' := [(.int (c8 49)), (.int (c8 41)), (.int (s.1 88 17))]) (h1 := (SH, s)) rfl ?_
  obtain ⟨v2, h1, hJ⟩ := m_b1 hJ
  refine Rn_call srt222 4 rfl rfl rfl ⟨Nat.le_of_ble_eq_true rfl, Nat.le_of_ble_eq_true rfl, rfl, Nat.le_of_ble_eq_true rfl⟩ (k_X12_isIn (d + 9) h1) (show Rn N xs (d + 10) me222 11 [some (.ref 88), none] [(.int v2)] (SH, s) r from ?_)
  refine Rn_sq srt222 5 5 (pc' := (if (s.1 88 17) = (ci 2) then 30 else 20)) (ls' := [some (.ref 88), some (.int v2)]) (st' := []) (h1 := (SH, s)) rfl (Rn_if (fun h3 => ?_) (fun h3 => ?_))
  · replace hJ := m_ifp h3 hJ
    exact (k_X12_unit_30 d hJ hC)
  · replace hJ := m_ifn h3 hJ
    refine Rn_sq srt222 10 2 (pc' := (if v2 = 0 then 24 else 30)) (ls' := [some (.ref 88), some (.int v2)]) (st' := []) (h1 := (SH, s)) rfl (Rn_if (fun h9 => ?_) (fun h9 => ?_))
    · replace hJ := m_ifp h9 hJ
      refine Rn_sq srt222 12 2 (pc' := 26) (ls' := [some (.ref 88), some (.int v2)]) (st' := [(.int (ci 1)), (.ref 88)]) (h1 := (SH, s)) rfl ?_
      obtain ⟨v12, s11, h10, hJ⟩ := m_b2 hJ
      refine Rn_call srt222 14 rfl rfl rfl ⟨Nat.le_of_ble_eq_true rfl, Nat.le_of_ble_eq_true rfl, rfl, Nat.le_of_ble_eq_true rfl⟩ (k_X12_bad (d + 9) h10) (show Rn N xs (d + 10) me222 29 [some (.ref 88), some (.int v2)] [(.int v12)] (SH, s11) r from ?_)
      obtain ⟨h13, hJ⟩ := m_gp hJ
      rw [← Option.some.inj hJ] at hC
      have hC : r = (some (.int v12), (SH, s11)) := hC
      subst hC
      exact Rn_ret srt222 15 rfl rfl (m_ret_b rfl h13)
    · replace hJ := m_ifn h9 hJ
      exact (k_X12_unit_30 d hJ hC)
theorem k_X12_unit {N : Nat} {xs : Nat → Int32} (d : Nat) {s : mG} {τ : (Int32 × mG)} (hJ : F_X12_unit s = some τ) : Rn N xs (d + 10) me222 0 [some (.ref 88), none] [] (SH, s) (some (.int τ.1), (SH, τ.2)) := k_X12_unit_r d hJ rfl
/-! IsHeInModel.product()Z -/
theorem srt221 : m_srt mc221 = true := by decide +kernel
def C_X12_product_9 (N : Nat) (xs : Nat → Int32) (d : Nat) (r : Option Value × mH) (C : (Int32 × mG) → Prop) : ((mG) ⊕ (Int32 × mG)) → Prop
  | .inl v => Rn N xs (d + 11) me221 9 [some (.ref 88), none, none] [] (SH, v) r
  | .inr a => C a
def F_X12_product_112 (s : mG) : Option ((mG) ⊕ (Int32 × mG)) :=
  some (Sum.inl s)
set_option maxRecDepth 4000 in
theorem k_X12_product_112 {N : Nat} {xs : Nat → Int32} (d : Nat) {r : Option Value × mH} {s : mG} {τ : ((mG) ⊕ (Int32 × mG))} (hJ : F_X12_product_112 s = some τ) (hC : (C_X12_product_9 N xs d r (fun τ => r = (some (.int τ.1), (SH, τ.2)))) τ) : Rn N xs (d + 11) me221 112 [some (.ref 88), none, none] [] (SH, s) r := by
  unfold F_X12_product_112 at hJ
  refine Rn_sq srt221 58 1 (pc' := 9) (ls' := [some (.ref 88), none, none]) (st' := []) (h1 := (SH, s)) rfl ?_
  rw [← Option.some.inj hJ] at hC
  exact hC
def F_X12_product_44 (y0 : Int32) (s : mG) : Option ((mG) ⊕ (Int32 × mG)) :=
  b1 (F_X12_next0 s) fun s8 =>
  if y0 = 0 then
    b2 (F_X12_unit s8) fun v12 s11 =>
    if v12 = 0 then
      some (Sum.inr ((ci 0), s11))
    else
      b1 (F_X12_lay (c8 25) (ci 0) s11) fun s15 =>
      F_X12_product_112 s15
  else
    if (s8.1 88 17) = (ci 2) then
      if (s8.1 88 19) = 0 then
        b2 (F_X12_bad (ci 2) s8) fun v20 s19 =>
        if v20 = 0 ∨ v20 = 1 then
          some (Sum.inr (v20, s19))
        else none
      else
        b1 (F_X12_next0 s8) fun s23 =>
        b1 (F_X12_lay (c8 26) (s8.1 88 19) s23) fun s25 =>
        F_X12_product_112 s25
    else
      b2 (F_X12_bad (ci 1) s8) fun v28 s27 =>
      if v28 = 0 ∨ v28 = 1 then
        some (Sum.inr (v28, s27))
      else none
set_option maxRecDepth 4000 in
theorem k_X12_product_44 {N : Nat} {xs : Nat → Int32} (d : Nat) {r : Option Value × mH} {s : mG} {y0 : Int32} {τ : ((mG) ⊕ (Int32 × mG))} (hJ : F_X12_product_44 y0 s = some τ) (hC : (C_X12_product_9 N xs d r (fun τ => r = (some (.int τ.1), (SH, τ.2)))) τ) : Rn N xs (d + 11) me221 44 [some (.ref 88), none, none] [(.int y0)] (SH, s) r := by
  unfold F_X12_product_44 at hJ
  refine Rn_sq srt221 20 2 (pc' := 46) (ls' := [some (.ref 88), some (.int y0), none]) (st' := [(.ref 88)]) (h1 := (SH, s)) rfl ?_
  obtain ⟨s8, h7, hJ⟩ := m_b1 hJ
  refine Rn_call srt221 22 rfl rfl rfl ⟨Nat.le_of_ble_eq_true rfl, Nat.le_of_ble_eq_true rfl, rfl, Nat.le_of_ble_eq_true rfl⟩ (k_X12_next0 (d + 1) h7) (show Rn N xs (d + 11) me221 49 [some (.ref 88), some (.int y0), none] [] (SH, s8) r from ?_)
  refine Rn_sq srt221 23 2 (pc' := (if y0 = 0 then 96 else 53)) (ls' := [some (.ref 88), some (.int y0), none]) (st' := []) (h1 := (SH, s8)) rfl (Rn_if (fun h9 => ?_) (fun h9 => ?_))
  · replace hJ := m_ifp h9 hJ
    refine Rn_sq srt221 49 1 (pc' := 97) (ls' := [some (.ref 88), some (.int y0), none]) (st' := [(.ref 88)]) (h1 := (SH, s8)) rfl ?_
    obtain ⟨v12, s11, h10, hJ⟩ := m_b2 hJ
    refine Rn_call srt221 50 rfl rfl rfl ⟨Nat.le_of_ble_eq_true rfl, Nat.le_of_ble_eq_true rfl, rfl, Nat.le_of_ble_eq_true rfl⟩ (k_X12_unit (d) h10) (show Rn N xs (d + 11) me221 100 [some (.ref 88), some (.int y0), none] [(.int v12)] (SH, s11) r from ?_)
    refine Rn_sq srt221 51 1 (pc' := (if v12 = 0 then 103 else 105)) (ls' := [some (.ref 88), some (.int y0), none]) (st' := []) (h1 := (SH, s11)) rfl (Rn_if (fun h13 => ?_) (fun h13 => ?_))
    · replace hJ := m_ifp h13 hJ
      refine Rn_sq srt221 52 1 (pc' := 104) (ls' := [some (.ref 88), some (.int y0), none]) (st' := [(.int (ci 0))]) (h1 := (SH, s11)) rfl ?_
      rw [← Option.some.inj hJ] at hC
      have hC : r = (some (.int (ci 0)), (SH, s11)) := hC
      subst hC
      exact Rn_ret srt221 53 rfl rfl (m_ret_b rfl (by decide))
    · replace hJ := m_ifn h13 hJ
      refine Rn_sq srt221 54 3 (pc' := 109) (ls' := [some (.ref 88), some (.int y0), none]) (st' := [(.int (ci 0)), (.int (c8 25)), (.ref 88)]) (h1 := (SH, s11)) rfl ?_
      obtain ⟨s15, h14, hJ⟩ := m_b1 hJ
      refine Rn_call srt221 57 rfl rfl rfl ⟨Nat.le_of_ble_eq_true rfl, Nat.le_of_ble_eq_true rfl, rfl, Nat.le_of_ble_eq_true rfl⟩ (k_X12_lay (d + 10) h14) (show Rn N xs (d + 11) me221 112 [some (.ref 88), some (.int y0), none] [] (SH, s15) r from ?_)
      exact Rn_weaken (a := [some (.ref 88), none, none]) (b := [some (.ref 88), some (.int y0), none]) (And.intro rfl trivial) rfl (k_X12_product_112 d hJ hC)
  · replace hJ := m_ifn h9 hJ
    refine Rn_sq srt221 25 7 (pc' := (if (s8.1 88 17) = (ci 2) then 72 else 66)) (ls' := [some (.ref 88), some (.int y0), some (.int (s8.1 88 19))]) (st' := []) (h1 := (SH, s8)) rfl (Rn_if (fun h16 => ?_) (fun h16 => ?_))
    · replace hJ := m_ifp h16 hJ
      refine Rn_sq srt221 36 2 (pc' := (if (s8.1 88 19) = 0 then 76 else 82)) (ls' := [some (.ref 88), some (.int y0), some (.int (s8.1 88 19))]) (st' := []) (h1 := (SH, s8)) rfl (Rn_if (fun h17 => ?_) (fun h17 => ?_))
      · replace hJ := m_ifp h17 hJ
        refine Rn_sq srt221 38 2 (pc' := 78) (ls' := [some (.ref 88), some (.int y0), some (.int (s8.1 88 19))]) (st' := [(.int (ci 2)), (.ref 88)]) (h1 := (SH, s8)) rfl ?_
        obtain ⟨v20, s19, h18, hJ⟩ := m_b2 hJ
        refine Rn_call srt221 40 rfl rfl rfl ⟨Nat.le_of_ble_eq_true rfl, Nat.le_of_ble_eq_true rfl, rfl, Nat.le_of_ble_eq_true rfl⟩ (k_X12_bad (d + 10) h18) (show Rn N xs (d + 11) me221 81 [some (.ref 88), some (.int y0), some (.int (s8.1 88 19))] [(.int v20)] (SH, s19) r from ?_)
        obtain ⟨h21, hJ⟩ := m_gp hJ
        rw [← Option.some.inj hJ] at hC
        have hC : r = (some (.int v20), (SH, s19)) := hC
        subst hC
        exact Rn_ret srt221 41 rfl rfl (m_ret_b rfl h21)
      · replace hJ := m_ifn h17 hJ
        refine Rn_sq srt221 42 1 (pc' := 83) (ls' := [some (.ref 88), some (.int y0), some (.int (s8.1 88 19))]) (st' := [(.ref 88)]) (h1 := (SH, s8)) rfl ?_
        obtain ⟨s23, h22, hJ⟩ := m_b1 hJ
        refine Rn_call srt221 43 rfl rfl rfl ⟨Nat.le_of_ble_eq_true rfl, Nat.le_of_ble_eq_true rfl, rfl, Nat.le_of_ble_eq_true rfl⟩ (k_X12_next0 (d + 1) h22) (show Rn N xs (d + 11) me221 86 [some (.ref 88), some (.int y0), some (.int (s8.1 88 19))] [] (SH, s23) r from ?_)
        refine Rn_sq srt221 44 3 (pc' := 90) (ls' := [some (.ref 88), some (.int y0), some (.int (s8.1 88 19))]) (st' := [(.int (s8.1 88 19)), (.int (c8 26)), (.ref 88)]) (h1 := (SH, s23)) rfl ?_
        obtain ⟨s25, h24, hJ⟩ := m_b1 hJ
        refine Rn_call srt221 47 rfl rfl rfl ⟨Nat.le_of_ble_eq_true rfl, Nat.le_of_ble_eq_true rfl, rfl, Nat.le_of_ble_eq_true rfl⟩ (k_X12_lay (d + 10) h24) (show Rn N xs (d + 11) me221 93 [some (.ref 88), some (.int y0), some (.int (s8.1 88 19))] [] (SH, s25) r from ?_)
        refine Rn_sq srt221 48 1 (pc' := 112) (ls' := [some (.ref 88), some (.int y0), some (.int (s8.1 88 19))]) (st' := []) (h1 := (SH, s25)) rfl ?_
        exact Rn_weaken (a := [some (.ref 88), none, none]) (b := [some (.ref 88), some (.int y0), some (.int (s8.1 88 19))]) (And.intro rfl trivial) rfl (k_X12_product_112 d hJ hC)
    · replace hJ := m_ifn h16 hJ
      refine Rn_sq srt221 32 2 (pc' := 68) (ls' := [some (.ref 88), some (.int y0), some (.int (s8.1 88 19))]) (st' := [(.int (ci 1)), (.ref 88)]) (h1 := (SH, s8)) rfl ?_
      obtain ⟨v28, s27, h26, hJ⟩ := m_b2 hJ
      refine Rn_call srt221 34 rfl rfl rfl ⟨Nat.le_of_ble_eq_true rfl, Nat.le_of_ble_eq_true rfl, rfl, Nat.le_of_ble_eq_true rfl⟩ (k_X12_bad (d + 10) h26) (show Rn N xs (d + 11) me221 71 [some (.ref 88), some (.int y0), some (.int (s8.1 88 19))] [(.int v28)] (SH, s27) r from ?_)
      obtain ⟨h29, hJ⟩ := m_gp hJ
      rw [← Option.some.inj hJ] at hC
      have hC : r = (some (.int v28), (SH, s27)) := hC
      subst hC
      exact Rn_ret srt221 35 rfl rfl (m_ret_b rfl h29)
def F_X12_product_29 (s : mG) : Option ((mG) ⊕ (Int32 × mG)) :=
  if (s.1 88 17) = (c16 147) then
    F_X12_product_44 (ci 1) s
  else
    F_X12_product_44 (ci 0) s
set_option maxRecDepth 4000 in
theorem k_X12_product_29 {N : Nat} {xs : Nat → Int32} (d : Nat) {r : Option Value × mH} {s : mG} {τ : ((mG) ⊕ (Int32 × mG))} (hJ : F_X12_product_29 s = some τ) (hC : (C_X12_product_9 N xs d r (fun τ => r = (some (.int τ.1), (SH, τ.2)))) τ) : Rn N xs (d + 11) me221 29 [some (.ref 88), none, none] [] (SH, s) r := by
  unfold F_X12_product_29 at hJ
  refine Rn_sq srt221 13 4 (pc' := (if (s.1 88 17) = (c16 147) then 39 else 43)) (ls' := [some (.ref 88), none, none]) (st' := []) (h1 := (SH, s)) rfl (Rn_if (fun h6 => ?_) (fun h6 => ?_))
  · replace hJ := m_ifp h6 hJ
    refine Rn_sq srt221 17 2 (pc' := 44) (ls' := [some (.ref 88), none, none]) (st' := [(.int (ci 1))]) (h1 := (SH, s)) rfl ?_
    exact (k_X12_product_44 d hJ hC)
  · replace hJ := m_ifn h6 hJ
    refine Rn_sq srt221 19 1 (pc' := 44) (ls' := [some (.ref 88), none, none]) (st' := [(.int (ci 0))]) (h1 := (SH, s)) rfl ?_
    exact (k_X12_product_44 d hJ hC)
def F_X12_product_B9 (s : mG) : Option ((mG) ⊕ (Int32 × mG)) :=
  if (s.1 88 17) = (c16 142) then
    F_X12_product_29 s
  else
    if (s.1 88 17) = (c16 147) then
      F_X12_product_29 s
    else
      some (Sum.inr ((ci 1), s))
set_option maxRecDepth 4000 in
theorem k_X12_product_B9 {N : Nat} {xs : Nat → Int32} (d : Nat) {r : Option Value × mH} {s : mG} {τ : ((mG) ⊕ (Int32 × mG))} (hJ : F_X12_product_B9 s = some τ) (hC : (C_X12_product_9 N xs d r (fun τ => r = (some (.int τ.1), (SH, τ.2)))) τ) : Rn N xs (d + 11) me221 9 [some (.ref 88), none, none] [] (SH, s) r := by
  unfold F_X12_product_B9 at hJ
  refine Rn_sq srt221 5 4 (pc' := (if (s.1 88 17) = (c16 142) then 29 else 19)) (ls' := [some (.ref 88), none, none]) (st' := []) (h1 := (SH, s)) rfl (Rn_if (fun h5 => ?_) (fun h5 => ?_))
  · replace hJ := m_ifp h5 hJ
    exact (k_X12_product_29 d hJ hC)
  · replace hJ := m_ifn h5 hJ
    refine Rn_sq srt221 9 4 (pc' := (if (s.1 88 17) = (c16 147) then 29 else 115)) (ls' := [some (.ref 88), none, none]) (st' := []) (h1 := (SH, s)) rfl (Rn_if (fun h30 => ?_) (fun h30 => ?_))
    · replace hJ := m_ifp h30 hJ
      exact (k_X12_product_29 d hJ hC)
    · replace hJ := m_ifn h30 hJ
      refine Rn_sq srt221 59 1 (pc' := 116) (ls' := [some (.ref 88), none, none]) (st' := [(.int (ci 1))]) (h1 := (SH, s)) rfl ?_
      rw [← Option.some.inj hJ] at hC
      have hC : r = (some (.int (ci 1)), (SH, s)) := hC
      subst hC
      exact Rn_ret srt221 60 rfl rfl (m_ret_b rfl (by decide))
def F_X12_product_L9 (s : mG) : Option (Int32 × mG) := whl (fun (v : (mG)) => F_X12_product_B9 v) s
theorem k_X12_product_L9 {N : Nat} {xs : Nat → Int32} (d : Nat) {r : Option Value × mH} {s : mG} {τ : (Int32 × mG)} (hJ : F_X12_product_L9 s = some τ) (hC : (fun τ => r = (some (.int τ.1), (SH, τ.2))) τ) : Rn N xs (d + 11) me221 9 [some (.ref 88), none, none] [] (SH, s) r :=
  whl_link (P := fun (v : (mG)) => Rn N xs (d + 11) me221 9 [some (.ref 88), none, none] [] (SH, v) r) (C := (C_X12_product_9 N xs d r (fun τ => r = (some (.int τ.1), (SH, τ.2))))) (fun v τ h1 h2 => k_X12_product_B9 d h1 h2) (fun _ h => h) (fun _ h => h) _ _ hJ hC
def F_X12_product (s : mG) : Option (Int32 × mG) :=
  b2 (F_X12_unit s) fun v3 s2 =>
  if v3 = 0 then
    some ((ci 0), s2)
  else
    F_X12_product_L9 s2
set_option maxRecDepth 4000 in
theorem k_X12_product_r {N : Nat} {xs : Nat → Int32} (d : Nat) {r : Option Value × mH} {s : mG} {τ : (Int32 × mG)} (hJ : F_X12_product s = some τ) (hC : (fun τ => r = (some (.int τ.1), (SH, τ.2))) τ) : Rn N xs (d + 11) me221 0 [some (.ref 88), none, none] [] (SH, s) r := by
  unfold F_X12_product at hJ
  refine Rn_sq srt221 0 1 (pc' := 1) (ls' := [some (.ref 88), none, none]) (st' := [(.ref 88)]) (h1 := (SH, s)) rfl ?_
  obtain ⟨v3, s2, h1, hJ⟩ := m_b2 hJ
  refine Rn_call srt221 1 rfl rfl rfl ⟨Nat.le_of_ble_eq_true rfl, Nat.le_of_ble_eq_true rfl, rfl, Nat.le_of_ble_eq_true rfl⟩ (k_X12_unit (d) h1) (show Rn N xs (d + 11) me221 4 [some (.ref 88), none, none] [(.int v3)] (SH, s2) r from ?_)
  refine Rn_sq srt221 2 1 (pc' := (if v3 = 0 then 7 else 9)) (ls' := [some (.ref 88), none, none]) (st' := []) (h1 := (SH, s2)) rfl (Rn_if (fun h4 => ?_) (fun h4 => ?_))
  · replace hJ := m_ifp h4 hJ
    refine Rn_sq srt221 3 1 (pc' := 8) (ls' := [some (.ref 88), none, none]) (st' := [(.int (ci 0))]) (h1 := (SH, s2)) rfl ?_
    rw [← Option.some.inj hJ] at hC
    have hC : r = (some (.int (ci 0)), (SH, s2)) := hC
    subst hC
    exact Rn_ret srt221 4 rfl rfl (m_ret_b rfl (by decide))
  · replace hJ := m_ifn h4 hJ
    exact (k_X12_product_L9 d hJ hC)
theorem k_X12_product {N : Nat} {xs : Nat → Int32} (d : Nat) {s : mG} {τ : (Int32 × mG)} (hJ : F_X12_product s = some τ) : Rn N xs (d + 11) me221 0 [some (.ref 88), none, none] [] (SH, s) (some (.int τ.1), (SH, τ.2)) := k_X12_product_r d hJ rfl
/-! IsHeInModel.sumUp()Z -/
theorem srt220 : m_srt mc220 = true := by decide +kernel
def C_X12_sumUp_9 (N : Nat) (xs : Nat → Int32) (d : Nat) (r : Option Value × mH) (C : (Int32 × mG) → Prop) : ((mG) ⊕ (Int32 × mG)) → Prop
  | .inl v => Rn N xs (d + 12) me220 9 [some (.ref 88), none] [] (SH, v) r
  | .inr a => C a
def F_X12_sumUp_46 (y0 : Int32) (s : mG) : Option ((mG) ⊕ (Int32 × mG)) :=
  b1 (F_X12_next0 s) fun s8 =>
  b2 (F_X12_product s8) fun v11 s10 =>
  if v11 = 0 then
    some (Sum.inr ((ci 0), s10))
  else
    b1 (F_X12_lay y0 (ci 0) s10) fun s14 =>
    some (Sum.inl s14)
set_option maxRecDepth 4000 in
theorem k_X12_sumUp_46 {N : Nat} {xs : Nat → Int32} (d : Nat) {r : Option Value × mH} {s : mG} {y0 : Int32} {τ : ((mG) ⊕ (Int32 × mG))} (hJ : F_X12_sumUp_46 y0 s = some τ) (hC : (C_X12_sumUp_9 N xs d r (fun τ => r = (some (.int τ.1), (SH, τ.2)))) τ) : Rn N xs (d + 12) me220 46 [some (.ref 88), none] [(.int y0)] (SH, s) r := by
  unfold F_X12_sumUp_46 at hJ
  refine Rn_sq srt220 20 2 (pc' := 48) (ls' := [some (.ref 88), some (.int y0)]) (st' := [(.ref 88)]) (h1 := (SH, s)) rfl ?_
  obtain ⟨s8, h7, hJ⟩ := m_b1 hJ
  refine Rn_call srt220 22 rfl rfl rfl ⟨Nat.le_of_ble_eq_true rfl, Nat.le_of_ble_eq_true rfl, rfl, Nat.le_of_ble_eq_true rfl⟩ (k_X12_next0 (d + 2) h7) (show Rn N xs (d + 12) me220 51 [some (.ref 88), some (.int y0)] [] (SH, s8) r from ?_)
  refine Rn_sq srt220 23 1 (pc' := 52) (ls' := [some (.ref 88), some (.int y0)]) (st' := [(.ref 88)]) (h1 := (SH, s8)) rfl ?_
  obtain ⟨v11, s10, h9, hJ⟩ := m_b2 hJ
  refine Rn_call srt220 24 rfl rfl rfl ⟨Nat.le_of_ble_eq_true rfl, Nat.le_of_ble_eq_true rfl, rfl, Nat.le_of_ble_eq_true rfl⟩ (k_X12_product (d) h9) (show Rn N xs (d + 12) me220 55 [some (.ref 88), some (.int y0)] [(.int v11)] (SH, s10) r from ?_)
  refine Rn_sq srt220 25 1 (pc' := (if v11 = 0 then 58 else 60)) (ls' := [some (.ref 88), some (.int y0)]) (st' := []) (h1 := (SH, s10)) rfl (Rn_if (fun h12 => ?_) (fun h12 => ?_))
  · replace hJ := m_ifp h12 hJ
    refine Rn_sq srt220 26 1 (pc' := 59) (ls' := [some (.ref 88), some (.int y0)]) (st' := [(.int (ci 0))]) (h1 := (SH, s10)) rfl ?_
    rw [← Option.some.inj hJ] at hC
    have hC : r = (some (.int (ci 0)), (SH, s10)) := hC
    subst hC
    exact Rn_ret srt220 27 rfl rfl (m_ret_b rfl (by decide))
  · replace hJ := m_ifn h12 hJ
    refine Rn_sq srt220 28 3 (pc' := 63) (ls' := [some (.ref 88), some (.int y0)]) (st' := [(.int (ci 0)), (.int y0), (.ref 88)]) (h1 := (SH, s10)) rfl ?_
    obtain ⟨s14, h13, hJ⟩ := m_b1 hJ
    refine Rn_call srt220 31 rfl rfl rfl ⟨Nat.le_of_ble_eq_true rfl, Nat.le_of_ble_eq_true rfl, rfl, Nat.le_of_ble_eq_true rfl⟩ (k_X12_lay (d + 11) h13) (show Rn N xs (d + 12) me220 66 [some (.ref 88), some (.int y0)] [] (SH, s14) r from ?_)
    refine Rn_sq srt220 32 1 (pc' := 9) (ls' := [some (.ref 88), some (.int y0)]) (st' := []) (h1 := (SH, s14)) rfl ?_
    rw [← Option.some.inj hJ] at hC
    exact Rn_weaken (a := [some (.ref 88), none]) (b := [some (.ref 88), some (.int y0)]) (And.intro rfl trivial) rfl hC
def F_X12_sumUp_29 (s : mG) : Option ((mG) ⊕ (Int32 × mG)) :=
  if (s.1 88 17) = (c16 143) then
    F_X12_sumUp_46 (c8 23) s
  else
    F_X12_sumUp_46 (c8 24) s
set_option maxRecDepth 4000 in
theorem k_X12_sumUp_29 {N : Nat} {xs : Nat → Int32} (d : Nat) {r : Option Value × mH} {s : mG} {τ : ((mG) ⊕ (Int32 × mG))} (hJ : F_X12_sumUp_29 s = some τ) (hC : (C_X12_sumUp_9 N xs d r (fun τ => r = (some (.int τ.1), (SH, τ.2)))) τ) : Rn N xs (d + 12) me220 29 [some (.ref 88), none] [] (SH, s) r := by
  unfold F_X12_sumUp_29 at hJ
  refine Rn_sq srt220 13 4 (pc' := (if (s.1 88 17) = (c16 143) then 39 else 44)) (ls' := [some (.ref 88), none]) (st' := []) (h1 := (SH, s)) rfl (Rn_if (fun h6 => ?_) (fun h6 => ?_))
  · replace hJ := m_ifp h6 hJ
    refine Rn_sq srt220 17 2 (pc' := 46) (ls' := [some (.ref 88), none]) (st' := [(.int (c8 23))]) (h1 := (SH, s)) rfl ?_
    exact (k_X12_sumUp_46 d hJ hC)
  · replace hJ := m_ifn h6 hJ
    refine Rn_sq srt220 19 1 (pc' := 46) (ls' := [some (.ref 88), none]) (st' := [(.int (c8 24))]) (h1 := (SH, s)) rfl ?_
    exact (k_X12_sumUp_46 d hJ hC)
def F_X12_sumUp_B9 (s : mG) : Option ((mG) ⊕ (Int32 × mG)) :=
  if (s.1 88 17) = (c16 143) then
    F_X12_sumUp_29 s
  else
    if (s.1 88 17) = (c16 145) then
      F_X12_sumUp_29 s
    else
      some (Sum.inr ((ci 1), s))
set_option maxRecDepth 4000 in
theorem k_X12_sumUp_B9 {N : Nat} {xs : Nat → Int32} (d : Nat) {r : Option Value × mH} {s : mG} {τ : ((mG) ⊕ (Int32 × mG))} (hJ : F_X12_sumUp_B9 s = some τ) (hC : (C_X12_sumUp_9 N xs d r (fun τ => r = (some (.int τ.1), (SH, τ.2)))) τ) : Rn N xs (d + 12) me220 9 [some (.ref 88), none] [] (SH, s) r := by
  unfold F_X12_sumUp_B9 at hJ
  refine Rn_sq srt220 5 4 (pc' := (if (s.1 88 17) = (c16 143) then 29 else 19)) (ls' := [some (.ref 88), none]) (st' := []) (h1 := (SH, s)) rfl (Rn_if (fun h5 => ?_) (fun h5 => ?_))
  · replace hJ := m_ifp h5 hJ
    exact (k_X12_sumUp_29 d hJ hC)
  · replace hJ := m_ifn h5 hJ
    refine Rn_sq srt220 9 4 (pc' := (if (s.1 88 17) = (c16 145) then 29 else 69)) (ls' := [some (.ref 88), none]) (st' := []) (h1 := (SH, s)) rfl (Rn_if (fun h15 => ?_) (fun h15 => ?_))
    · replace hJ := m_ifp h15 hJ
      exact (k_X12_sumUp_29 d hJ hC)
    · replace hJ := m_ifn h15 hJ
      refine Rn_sq srt220 33 1 (pc' := 70) (ls' := [some (.ref 88), none]) (st' := [(.int (ci 1))]) (h1 := (SH, s)) rfl ?_
      rw [← Option.some.inj hJ] at hC
      have hC : r = (some (.int (ci 1)), (SH, s)) := hC
      subst hC
      exact Rn_ret srt220 34 rfl rfl (m_ret_b rfl (by decide))
def F_X12_sumUp_L9 (s : mG) : Option (Int32 × mG) := whl (fun (v : (mG)) => F_X12_sumUp_B9 v) s
theorem k_X12_sumUp_L9 {N : Nat} {xs : Nat → Int32} (d : Nat) {r : Option Value × mH} {s : mG} {τ : (Int32 × mG)} (hJ : F_X12_sumUp_L9 s = some τ) (hC : (fun τ => r = (some (.int τ.1), (SH, τ.2))) τ) : Rn N xs (d + 12) me220 9 [some (.ref 88), none] [] (SH, s) r :=
  whl_link (P := fun (v : (mG)) => Rn N xs (d + 12) me220 9 [some (.ref 88), none] [] (SH, v) r) (C := (C_X12_sumUp_9 N xs d r (fun τ => r = (some (.int τ.1), (SH, τ.2))))) (fun v τ h1 h2 => k_X12_sumUp_B9 d h1 h2) (fun _ h => h) (fun _ h => h) _ _ hJ hC
def F_X12_sumUp (s : mG) : Option (Int32 × mG) :=
  b2 (F_X12_product s) fun v3 s2 =>
  if v3 = 0 then
    some ((ci 0), s2)
  else
    F_X12_sumUp_L9 s2
set_option maxRecDepth 4000 in
theorem k_X12_sumUp_r {N : Nat} {xs : Nat → Int32} (d : Nat) {r : Option Value × mH} {s : mG} {τ : (Int32 × mG)} (hJ : F_X12_sumUp s = some τ) (hC : (fun τ => r = (some (.int τ.1), (SH, τ.2))) τ) : Rn N xs (d + 12) me220 0 [some (.ref 88), none] [] (SH, s) r := by
  unfold F_X12_sumUp at hJ
  refine Rn_sq srt220 0 1 (pc' := 1) (ls' := [some (.ref 88), none]) (st' := [(.ref 88)]) (h1 := (SH, s)) rfl ?_
  obtain ⟨v3, s2, h1, hJ⟩ := m_b2 hJ
  refine Rn_call srt220 1 rfl rfl rfl ⟨Nat.le_of_ble_eq_true rfl, Nat.le_of_ble_eq_true rfl, rfl, Nat.le_of_ble_eq_true rfl⟩ (k_X12_product (d) h1) (show Rn N xs (d + 12) me220 4 [some (.ref 88), none] [(.int v3)] (SH, s2) r from ?_)
  refine Rn_sq srt220 2 1 (pc' := (if v3 = 0 then 7 else 9)) (ls' := [some (.ref 88), none]) (st' := []) (h1 := (SH, s2)) rfl (Rn_if (fun h4 => ?_) (fun h4 => ?_))
  · replace hJ := m_ifp h4 hJ
    refine Rn_sq srt220 3 1 (pc' := 8) (ls' := [some (.ref 88), none]) (st' := [(.int (ci 0))]) (h1 := (SH, s2)) rfl ?_
    rw [← Option.some.inj hJ] at hC
    have hC : r = (some (.int (ci 0)), (SH, s2)) := hC
    subst hC
    exact Rn_ret srt220 4 rfl rfl (m_ret_b rfl (by decide))
  · replace hJ := m_ifn h4 hJ
    exact (k_X12_sumUp_L9 d hJ hC)
theorem k_X12_sumUp {N : Nat} {xs : Nat → Int32} (d : Nat) {s : mG} {τ : (Int32 × mG)} (hJ : F_X12_sumUp s = some τ) : Rn N xs (d + 12) me220 0 [some (.ref 88), none] [] (SH, s) (some (.int τ.1), (SH, τ.2)) := k_X12_sumUp_r d hJ rfl
/-! IsHeInModel.every()Z -/
theorem srt224 : m_srt mc224 = true := by decide +kernel
def C_X12_every_9 (N : Nat) (xs : Nat → Int32) (rec : mG → Option (Int32 × mG)) (d : Nat) (r : Option Value × mH) (C : (Int32 × mG) → Prop) : ((mG) ⊕ (Int32 × mG)) → Prop
  | .inl v => Rn N xs (d + 10) me224 9 [some (.ref 88)] [] (SH, v) r
  | .inr a => C a
def F_X12_every_B9 (rec : mG → Option (Int32 × mG)) (s : mG) : Option ((mG) ⊕ (Int32 × mG)) :=
  if (s.1 88 17) = (ci 5) then
    b1 (F_X12_next0 s) fun s7 =>
    b2 (rec s7) fun v10 s9 =>
    if v10 = 0 then
      some (Sum.inr ((ci 0), s9))
    else
      b1 (F_X12_lay (c8 31) (ci 0) s9) fun s13 =>
      some (Sum.inl s13)
  else
    some (Sum.inr ((ci 1), s))
set_option maxRecDepth 4000 in
theorem k_X12_every_B9 {N : Nat} {xs : Nat → Int32} (rec : mG → Option (Int32 × mG)) (d : Nat) (hrec : ∀ (s : mG) (τ : Int32 × mG), rec s = some τ → Rn N xs d me225 0 [some (.ref 88), none] [] (SH, s) (some (.int τ.1), (SH, τ.2))) {r : Option Value × mH} {s : mG} {τ : ((mG) ⊕ (Int32 × mG))} (hJ : F_X12_every_B9 rec s = some τ) (hC : (C_X12_every_9 N xs rec d r (fun τ => r = (some (.int τ.1), (SH, τ.2)))) τ) : Rn N xs (d + 10) me224 9 [some (.ref 88)] [] (SH, s) r := by
  unfold F_X12_every_B9 at hJ
  refine Rn_sq srt224 5 4 (pc' := (if (s.1 88 17) = (ci 5) then 17 else 40)) (ls' := [some (.ref 88)]) (st' := []) (h1 := (SH, s)) rfl (Rn_if (fun h5 => ?_) (fun h5 => ?_))
  · replace hJ := m_ifp h5 hJ
    refine Rn_sq srt224 9 1 (pc' := 18) (ls' := [some (.ref 88)]) (st' := [(.ref 88)]) (h1 := (SH, s)) rfl ?_
    obtain ⟨s7, h6, hJ⟩ := m_b1 hJ
    refine Rn_call srt224 10 rfl rfl rfl ⟨Nat.le_of_ble_eq_true rfl, Nat.le_of_ble_eq_true rfl, rfl, Nat.le_of_ble_eq_true rfl⟩ (k_X12_next0 (d) h6) (show Rn N xs (d + 10) me224 21 [some (.ref 88)] [] (SH, s7) r from ?_)
    refine Rn_sq srt224 11 1 (pc' := 22) (ls' := [some (.ref 88)]) (st' := [(.ref 88)]) (h1 := (SH, s7)) rfl ?_
    obtain ⟨v10, s9, h8, hJ⟩ := m_b2 hJ
    refine Rn_call srt224 12 rfl rfl rfl ⟨Nat.le_of_ble_eq_true rfl, Nat.le_of_ble_eq_true rfl, rfl, Nat.le_of_ble_eq_true rfl⟩ (Rn_dep 9 (hrec _ _ h8)) (show Rn N xs (d + 10) me224 25 [some (.ref 88)] [(.int v10)] (SH, s9) r from ?_)
    refine Rn_sq srt224 13 1 (pc' := (if v10 = 0 then 28 else 30)) (ls' := [some (.ref 88)]) (st' := []) (h1 := (SH, s9)) rfl (Rn_if (fun h11 => ?_) (fun h11 => ?_))
    · replace hJ := m_ifp h11 hJ
      refine Rn_sq srt224 14 1 (pc' := 29) (ls' := [some (.ref 88)]) (st' := [(.int (ci 0))]) (h1 := (SH, s9)) rfl ?_
      rw [← Option.some.inj hJ] at hC
      have hC : r = (some (.int (ci 0)), (SH, s9)) := hC
      subst hC
      exact Rn_ret srt224 15 rfl rfl (m_ret_b rfl (by decide))
    · replace hJ := m_ifn h11 hJ
      refine Rn_sq srt224 16 3 (pc' := 34) (ls' := [some (.ref 88)]) (st' := [(.int (ci 0)), (.int (c8 31)), (.ref 88)]) (h1 := (SH, s9)) rfl ?_
      obtain ⟨s13, h12, hJ⟩ := m_b1 hJ
      refine Rn_call srt224 19 rfl rfl rfl ⟨Nat.le_of_ble_eq_true rfl, Nat.le_of_ble_eq_true rfl, rfl, Nat.le_of_ble_eq_true rfl⟩ (k_X12_lay (d + 9) h12) (show Rn N xs (d + 10) me224 37 [some (.ref 88)] [] (SH, s13) r from ?_)
      refine Rn_sq srt224 20 1 (pc' := 9) (ls' := [some (.ref 88)]) (st' := []) (h1 := (SH, s13)) rfl ?_
      rw [← Option.some.inj hJ] at hC
      exact hC
  · replace hJ := m_ifn h5 hJ
    refine Rn_sq srt224 21 1 (pc' := 41) (ls' := [some (.ref 88)]) (st' := [(.int (ci 1))]) (h1 := (SH, s)) rfl ?_
    rw [← Option.some.inj hJ] at hC
    have hC : r = (some (.int (ci 1)), (SH, s)) := hC
    subst hC
    exact Rn_ret srt224 22 rfl rfl (m_ret_b rfl (by decide))
def F_X12_every_L9 (rec : mG → Option (Int32 × mG)) (s : mG) : Option (Int32 × mG) := whl (fun (v : (mG)) => F_X12_every_B9 rec v) s
theorem k_X12_every_L9 {N : Nat} {xs : Nat → Int32} (rec : mG → Option (Int32 × mG)) (d : Nat) (hrec : ∀ (s : mG) (τ : Int32 × mG), rec s = some τ → Rn N xs d me225 0 [some (.ref 88), none] [] (SH, s) (some (.int τ.1), (SH, τ.2))) {r : Option Value × mH} {s : mG} {τ : (Int32 × mG)} (hJ : F_X12_every_L9 rec s = some τ) (hC : (fun τ => r = (some (.int τ.1), (SH, τ.2))) τ) : Rn N xs (d + 10) me224 9 [some (.ref 88)] [] (SH, s) r :=
  whl_link (P := fun (v : (mG)) => Rn N xs (d + 10) me224 9 [some (.ref 88)] [] (SH, v) r) (C := (C_X12_every_9 N xs rec d r (fun τ => r = (some (.int τ.1), (SH, τ.2))))) (fun v τ h1 h2 => k_X12_every_B9 rec d hrec h1 h2) (fun _ h => h) (fun _ h => h) _ _ hJ hC
def F_X12_every (rec : mG → Option (Int32 × mG)) (s : mG) : Option (Int32 × mG) :=
  b2 (rec s) fun v3 s2 =>
  if v3 = 0 then
    some ((ci 0), s2)
  else
    F_X12_every_L9 rec s2
set_option maxRecDepth 4000 in
theorem k_X12_every_r {N : Nat} {xs : Nat → Int32} (rec : mG → Option (Int32 × mG)) (d : Nat) (hrec : ∀ (s : mG) (τ : Int32 × mG), rec s = some τ → Rn N xs d me225 0 [some (.ref 88), none] [] (SH, s) (some (.int τ.1), (SH, τ.2))) {r : Option Value × mH} {s : mG} {τ : (Int32 × mG)} (hJ : F_X12_every rec s = some τ) (hC : (fun τ => r = (some (.int τ.1), (SH, τ.2))) τ) : Rn N xs (d + 10) me224 0 [some (.ref 88)] [] (SH, s) r := by
  unfold F_X12_every at hJ
  refine Rn_sq srt224 0 1 (pc' := 1) (ls' := [some (.ref 88)]) (st' := [(.ref 88)]) (h1 := (SH, s)) rfl ?_
  obtain ⟨v3, s2, h1, hJ⟩ := m_b2 hJ
  refine Rn_call srt224 1 rfl rfl rfl ⟨Nat.le_of_ble_eq_true rfl, Nat.le_of_ble_eq_true rfl, rfl, Nat.le_of_ble_eq_true rfl⟩ (Rn_dep 9 (hrec _ _ h1)) (show Rn N xs (d + 10) me224 4 [some (.ref 88)] [(.int v3)] (SH, s2) r from ?_)
  refine Rn_sq srt224 2 1 (pc' := (if v3 = 0 then 7 else 9)) (ls' := [some (.ref 88)]) (st' := []) (h1 := (SH, s2)) rfl (Rn_if (fun h4 => ?_) (fun h4 => ?_))
  · replace hJ := m_ifp h4 hJ
    refine Rn_sq srt224 3 1 (pc' := 8) (ls' := [some (.ref 88)]) (st' := [(.int (ci 0))]) (h1 := (SH, s2)) rfl ?_
    rw [← Option.some.inj hJ] at hC
    have hC : r = (some (.int (ci 0)), (SH, s2)) := hC
    subst hC
    exact Rn_ret srt224 4 rfl rfl (m_ret_b rfl (by decide))
  · replace hJ := m_ifn h4 hJ
    exact (k_X12_every_L9 rec d hrec hJ hC)
theorem k_X12_every {N : Nat} {xs : Nat → Int32} (rec : mG → Option (Int32 × mG)) (d : Nat) (hrec : ∀ (s : mG) (τ : Int32 × mG), rec s = some τ → Rn N xs d me225 0 [some (.ref 88), none] [] (SH, s) (some (.int τ.1), (SH, τ.2))) {s : mG} {τ : (Int32 × mG)} (hJ : F_X12_every rec s = some τ) : Rn N xs (d + 10) me224 0 [some (.ref 88)] [] (SH, s) (some (.int τ.1), (SH, τ.2)) := k_X12_every_r rec d hrec hJ rfl
/-! IsHeInModel.any()Z -/
theorem srt223 : m_srt mc223 = true := by decide +kernel
def C_X12_any_9 (N : Nat) (xs : Nat → Int32) (rec : mG → Option (Int32 × mG)) (d : Nat) (r : Option Value × mH) (C : (Int32 × mG) → Prop) : ((mG) ⊕ (Int32 × mG)) → Prop
  | .inl v => Rn N xs (d + 11) me223 9 [some (.ref 88)] [] (SH, v) r
  | .inr a => C a
def F_X12_any_B9 (rec : mG → Option (Int32 × mG)) (s : mG) : Option ((mG) ⊕ (Int32 × mG)) :=
  if (s.1 88 17) = (ci 4) then
    b1 (F_X12_next0 s) fun s7 =>
    b2 (F_X12_every rec s7) fun v10 s9 =>
    if v10 = 0 then
      some (Sum.inr ((ci 0), s9))
    else
      b1 (F_X12_lay (c8 32) (ci 0) s9) fun s13 =>
      some (Sum.inl s13)
  else
    some (Sum.inr ((ci 1), s))
set_option maxRecDepth 4000 in
theorem k_X12_any_B9 {N : Nat} {xs : Nat → Int32} (rec : mG → Option (Int32 × mG)) (d : Nat) (hrec : ∀ (s : mG) (τ : Int32 × mG), rec s = some τ → Rn N xs d me225 0 [some (.ref 88), none] [] (SH, s) (some (.int τ.1), (SH, τ.2))) {r : Option Value × mH} {s : mG} {τ : ((mG) ⊕ (Int32 × mG))} (hJ : F_X12_any_B9 rec s = some τ) (hC : (C_X12_any_9 N xs rec d r (fun τ => r = (some (.int τ.1), (SH, τ.2)))) τ) : Rn N xs (d + 11) me223 9 [some (.ref 88)] [] (SH, s) r := by
  unfold F_X12_any_B9 at hJ
  refine Rn_sq srt223 5 4 (pc' := (if (s.1 88 17) = (ci 4) then 17 else 40)) (ls' := [some (.ref 88)]) (st' := []) (h1 := (SH, s)) rfl (Rn_if (fun h5 => ?_) (fun h5 => ?_))
  · replace hJ := m_ifp h5 hJ
    refine Rn_sq srt223 9 1 (pc' := 18) (ls' := [some (.ref 88)]) (st' := [(.ref 88)]) (h1 := (SH, s)) rfl ?_
    obtain ⟨s7, h6, hJ⟩ := m_b1 hJ
    refine Rn_call srt223 10 rfl rfl rfl ⟨Nat.le_of_ble_eq_true rfl, Nat.le_of_ble_eq_true rfl, rfl, Nat.le_of_ble_eq_true rfl⟩ (k_X12_next0 (d + 1) h6) (show Rn N xs (d + 11) me223 21 [some (.ref 88)] [] (SH, s7) r from ?_)
    refine Rn_sq srt223 11 1 (pc' := 22) (ls' := [some (.ref 88)]) (st' := [(.ref 88)]) (h1 := (SH, s7)) rfl ?_
    obtain ⟨v10, s9, h8, hJ⟩ := m_b2 hJ
    refine Rn_call srt223 12 rfl rfl rfl ⟨Nat.le_of_ble_eq_true rfl, Nat.le_of_ble_eq_true rfl, rfl, Nat.le_of_ble_eq_true rfl⟩ (Rn_dep 0 (k_X12_every rec d hrec h8)) (show Rn N xs (d + 11) me223 25 [some (.ref 88)] [(.int v10)] (SH, s9) r from ?_)
    refine Rn_sq srt223 13 1 (pc' := (if v10 = 0 then 28 else 30)) (ls' := [some (.ref 88)]) (st' := []) (h1 := (SH, s9)) rfl (Rn_if (fun h11 => ?_) (fun h11 => ?_))
    · replace hJ := m_ifp h11 hJ
      refine Rn_sq srt223 14 1 (pc' := 29) (ls' := [some (.ref 88)]) (st' := [(.int (ci 0))]) (h1 := (SH, s9)) rfl ?_
      rw [← Option.some.inj hJ] at hC
      have hC : r = (some (.int (ci 0)), (SH, s9)) := hC
      subst hC
      exact Rn_ret srt223 15 rfl rfl (m_ret_b rfl (by decide))
    · replace hJ := m_ifn h11 hJ
      refine Rn_sq srt223 16 3 (pc' := 34) (ls' := [some (.ref 88)]) (st' := [(.int (ci 0)), (.int (c8 32)), (.ref 88)]) (h1 := (SH, s9)) rfl ?_
      obtain ⟨s13, h12, hJ⟩ := m_b1 hJ
      refine Rn_call srt223 19 rfl rfl rfl ⟨Nat.le_of_ble_eq_true rfl, Nat.le_of_ble_eq_true rfl, rfl, Nat.le_of_ble_eq_true rfl⟩ (k_X12_lay (d + 10) h12) (show Rn N xs (d + 11) me223 37 [some (.ref 88)] [] (SH, s13) r from ?_)
      refine Rn_sq srt223 20 1 (pc' := 9) (ls' := [some (.ref 88)]) (st' := []) (h1 := (SH, s13)) rfl ?_
      rw [← Option.some.inj hJ] at hC
      exact hC
  · replace hJ := m_ifn h5 hJ
    refine Rn_sq srt223 21 1 (pc' := 41) (ls' := [some (.ref 88)]) (st' := [(.int (ci 1))]) (h1 := (SH, s)) rfl ?_
    rw [← Option.some.inj hJ] at hC
    have hC : r = (some (.int (ci 1)), (SH, s)) := hC
    subst hC
    exact Rn_ret srt223 22 rfl rfl (m_ret_b rfl (by decide))
def F_X12_any_L9 (rec : mG → Option (Int32 × mG)) (s : mG) : Option (Int32 × mG) := whl (fun (v : (mG)) => F_X12_any_B9 rec v) s
theorem k_X12_any_L9 {N : Nat} {xs : Nat → Int32} (rec : mG → Option (Int32 × mG)) (d : Nat) (hrec : ∀ (s : mG) (τ : Int32 × mG), rec s = some τ → Rn N xs d me225 0 [some (.ref 88), none] [] (SH, s) (some (.int τ.1), (SH, τ.2))) {r : Option Value × mH} {s : mG} {τ : (Int32 × mG)} (hJ : F_X12_any_L9 rec s = some τ) (hC : (fun τ => r = (some (.int τ.1), (SH, τ.2))) τ) : Rn N xs (d + 11) me223 9 [some (.ref 88)] [] (SH, s) r :=
  whl_link (P := fun (v : (mG)) => Rn N xs (d + 11) me223 9 [some (.ref 88)] [] (SH, v) r) (C := (C_X12_any_9 N xs rec d r (fun τ => r = (some (.int τ.1), (SH, τ.2))))) (fun v τ h1 h2 => k_X12_any_B9 rec d hrec h1 h2) (fun _ h => h) (fun _ h => h) _ _ hJ hC
def F_X12_any (rec : mG → Option (Int32 × mG)) (s : mG) : Option (Int32 × mG) :=
  b2 (F_X12_every rec s) fun v3 s2 =>
  if v3 = 0 then
    some ((ci 0), s2)
  else
    F_X12_any_L9 rec s2
set_option maxRecDepth 4000 in
theorem k_X12_any_r {N : Nat} {xs : Nat → Int32} (rec : mG → Option (Int32 × mG)) (d : Nat) (hrec : ∀ (s : mG) (τ : Int32 × mG), rec s = some τ → Rn N xs d me225 0 [some (.ref 88), none] [] (SH, s) (some (.int τ.1), (SH, τ.2))) {r : Option Value × mH} {s : mG} {τ : (Int32 × mG)} (hJ : F_X12_any rec s = some τ) (hC : (fun τ => r = (some (.int τ.1), (SH, τ.2))) τ) : Rn N xs (d + 11) me223 0 [some (.ref 88)] [] (SH, s) r := by
  unfold F_X12_any at hJ
  refine Rn_sq srt223 0 1 (pc' := 1) (ls' := [some (.ref 88)]) (st' := [(.ref 88)]) (h1 := (SH, s)) rfl ?_
  obtain ⟨v3, s2, h1, hJ⟩ := m_b2 hJ
  refine Rn_call srt223 1 rfl rfl rfl ⟨Nat.le_of_ble_eq_true rfl, Nat.le_of_ble_eq_true rfl, rfl, Nat.le_of_ble_eq_true rfl⟩ (Rn_dep 0 (k_X12_every rec d hrec h1)) (show Rn N xs (d + 11) me223 4 [some (.ref 88)] [(.int v3)] (SH, s2) r from ?_)
  refine Rn_sq srt223 2 1 (pc' := (if v3 = 0 then 7 else 9)) (ls' := [some (.ref 88)]) (st' := []) (h1 := (SH, s2)) rfl (Rn_if (fun h4 => ?_) (fun h4 => ?_))
  · replace hJ := m_ifp h4 hJ
    refine Rn_sq srt223 3 1 (pc' := 8) (ls' := [some (.ref 88)]) (st' := [(.int (ci 0))]) (h1 := (SH, s2)) rfl ?_
    rw [← Option.some.inj hJ] at hC
    have hC : r = (some (.int (ci 0)), (SH, s2)) := hC
    subst hC
    exact Rn_ret srt223 4 rfl rfl (m_ret_b rfl (by decide))
  · replace hJ := m_ifn h4 hJ
    exact (k_X12_any_L9 rec d hrec hJ hC)
theorem k_X12_any {N : Nat} {xs : Nat → Int32} (rec : mG → Option (Int32 × mG)) (d : Nat) (hrec : ∀ (s : mG) (τ : Int32 × mG), rec s = some τ → Rn N xs d me225 0 [some (.ref 88), none] [] (SH, s) (some (.int τ.1), (SH, τ.2))) {s : mG} {τ : (Int32 × mG)} (hJ : F_X12_any rec s = some τ) : Rn N xs (d + 11) me223 0 [some (.ref 88)] [] (SH, s) (some (.int τ.1), (SH, τ.2)) := k_X12_any_r rec d hrec hJ rfl
/-! IsHeInModel.oneTest()Z -/
theorem srt225 : m_srt mc225 = true := by decide +kernel
def F_X12_oneTest_23 (rec : mG → Option (Int32 × mG)) (s : mG) : Option (Int32 × mG) :=
  some ((ci 0), s)
set_option maxRecDepth 4000 in
theorem k_X12_oneTest_23 {N : Nat} {xs : Nat → Int32} (rec : mG → Option (Int32 × mG)) (d : Nat) (hrec : ∀ (s : mG) (τ : Int32 × mG), rec s = some τ → Rn N xs d me225 0 [some (.ref 88), none] [] (SH, s) (some (.int τ.1), (SH, τ.2))) {r : Option Value × mH} {s : mG} {τ : (Int32 × mG)} (hJ : F_X12_oneTest_23 rec s = some τ) (hC : (fun τ => r = (some (.int τ.1), (SH, τ.2))) τ) : Rn N xs (d + 13) me225 23 [none, none] [] (SH, s) r := by
  unfold F_X12_oneTest_23 at hJ
  refine Rn_sq srt225 10 1 (pc' := 24) (ls' := [none, none]) (st' := [(.int (ci 0))]) (h1 := (SH, s)) rfl ?_
  rw [← Option.some.inj hJ] at hC
  have hC : r = (some (.int (ci 0)), (SH, s)) := hC
  subst hC
  exact Rn_ret srt225 11 rfl rfl (m_ret_b rfl (by decide))
def F_X12_oneTest_78 (rec : mG → Option (Int32 × mG)) (s : mG) : Option (Int32 × mG) :=
  some ((ci 0), s)
set_option maxRecDepth 4000 in
theorem k_X12_oneTest_78 {N : Nat} {xs : Nat → Int32} (rec : mG → Option (Int32 × mG)) (d : Nat) (hrec : ∀ (s : mG) (τ : Int32 × mG), rec s = some τ → Rn N xs d me225 0 [some (.ref 88), none] [] (SH, s) (some (.int τ.1), (SH, τ.2))) {r : Option Value × mH} {s : mG} {τ : (Int32 × mG)} (hJ : F_X12_oneTest_78 rec s = some τ) (hC : (fun τ => r = (some (.int τ.1), (SH, τ.2))) τ) : Rn N xs (d + 13) me225 78 [none, none] [] (SH, s) r := by
  unfold F_X12_oneTest_78 at hJ
  refine Rn_sq srt225 38 1 (pc' := 79) (ls' := [none, none]) (st' := [(.int (ci 0))]) (h1 := (SH, s)) rfl ?_
  rw [← Option.some.inj hJ] at hC
  have hC : r = (some (.int (ci 0)), (SH, s)) := hC
  subst hC
  exact Rn_ret srt225 39 rfl rfl (m_ret_b rfl (by decide))
def F_X12_oneTest_147 (rec : mG → Option (Int32 × mG)) (y0 : Int32) (s : mG) : Option (Int32 × mG) :=
  if y0 = (ci (-1)) then
    b2 (F_X12_bad (ci 1) s) fun v35 s34 =>
    if v35 = 0 ∨ v35 = 1 then
      some (v35, s34)
    else none
  else
    b1 (F_X12_next0 s) fun s38 =>
    b2 (F_X12_sumUp s38) fun v41 s40 =>
    if v41 = 0 then
      some ((ci 0), s40)
    else
      b1 (F_X12_lay y0 (ci 0) s40) fun s44 =>
      some ((ci 1), s44)
set_option maxRecDepth 4000 in
theorem k_X12_oneTest_147 {N : Nat} {xs : Nat → Int32} (rec : mG → Option (Int32 × mG)) (d : Nat) (hrec : ∀ (s : mG) (τ : Int32 × mG), rec s = some τ → Rn N xs d me225 0 [some (.ref 88), none] [] (SH, s) (some (.int τ.1), (SH, τ.2))) {r : Option Value × mH} {s : mG} {y0 : Int32} {τ : (Int32 × mG)} (hJ : F_X12_oneTest_147 rec y0 s = some τ) (hC : (fun τ => r = (some (.int τ.1), (SH, τ.2))) τ) : Rn N xs (d + 13) me225 147 [some (.ref 88), none] [(.int y0)] (SH, s) r := by
  unfold F_X12_oneTest_147 at hJ
  refine Rn_sq srt225 72 4 (pc' := (if y0 = (ci (-1)) then 153 else 159)) (ls' := [some (.ref 88), some (.int y0)]) (st' := []) (h1 := (SH, s)) rfl (Rn_if (fun h32 => ?_) (fun h32 => ?_))
  · replace hJ := m_ifp h32 hJ
    refine Rn_sq srt225 76 2 (pc' := 155) (ls' := [some (.ref 88), some (.int y0)]) (st' := [(.int (ci 1)), (.ref 88)]) (h1 := (SH, s)) rfl ?_
    obtain ⟨v35, s34, h33, hJ⟩ := m_b2 hJ
    refine Rn_call srt225 78 rfl rfl rfl ⟨Nat.le_of_ble_eq_true rfl, Nat.le_of_ble_eq_true rfl, rfl, Nat.le_of_ble_eq_true rfl⟩ (k_X12_bad (d + 12) h33) (show Rn N xs (d + 13) me225 158 [some (.ref 88), some (.int y0)] [(.int v35)] (SH, s34) r from ?_)
    obtain ⟨h36, hJ⟩ := m_gp hJ
    rw [← Option.some.inj hJ] at hC
    have hC : r = (some (.int v35), (SH, s34)) := hC
    subst hC
    exact Rn_ret srt225 79 rfl rfl (m_ret_b rfl h36)
  · replace hJ := m_ifn h32 hJ
    refine Rn_sq srt225 80 1 (pc' := 160) (ls' := [some (.ref 88), some (.int y0)]) (st' := [(.ref 88)]) (h1 := (SH, s)) rfl ?_
    obtain ⟨s38, h37, hJ⟩ := m_b1 hJ
    refine Rn_call srt225 81 rfl rfl rfl ⟨Nat.le_of_ble_eq_true rfl, Nat.le_of_ble_eq_true rfl, rfl, Nat.le_of_ble_eq_true rfl⟩ (k_X12_next0 (d + 3) h37) (show Rn N xs (d + 13) me225 163 [some (.ref 88), some (.int y0)] [] (SH, s38) r from ?_)
    refine Rn_sq srt225 82 1 (pc' := 164) (ls' := [some (.ref 88), some (.int y0)]) (st' := [(.ref 88)]) (h1 := (SH, s38)) rfl ?_
    obtain ⟨v41, s40, h39, hJ⟩ := m_b2 hJ
    refine Rn_call srt225 83 rfl rfl rfl ⟨Nat.le_of_ble_eq_true rfl, Nat.le_of_ble_eq_true rfl, rfl, Nat.le_of_ble_eq_true rfl⟩ (k_X12_sumUp (d) h39) (show Rn N xs (d + 13) me225 167 [some (.ref 88), some (.int y0)] [(.int v41)] (SH, s40) r from ?_)
    refine Rn_sq srt225 84 1 (pc' := (if v41 = 0 then 170 else 172)) (ls' := [some (.ref 88), some (.int y0)]) (st' := []) (h1 := (SH, s40)) rfl (Rn_if (fun h42 => ?_) (fun h42 => ?_))
    · replace hJ := m_ifp h42 hJ
      refine Rn_sq srt225 85 1 (pc' := 171) (ls' := [some (.ref 88), some (.int y0)]) (st' := [(.int (ci 0))]) (h1 := (SH, s40)) rfl ?_
      rw [← Option.some.inj hJ] at hC
      have hC : r = (some (.int (ci 0)), (SH, s40)) := hC
      subst hC
      exact Rn_ret srt225 86 rfl rfl (m_ret_b rfl (by decide))
    · replace hJ := m_ifn h42 hJ
      refine Rn_sq srt225 87 3 (pc' := 175) (ls' := [some (.ref 88), some (.int y0)]) (st' := [(.int (ci 0)), (.int y0), (.ref 88)]) (h1 := (SH, s40)) rfl ?_
      obtain ⟨s44, h43, hJ⟩ := m_b1 hJ
      refine Rn_call srt225 90 rfl rfl rfl ⟨Nat.le_of_ble_eq_true rfl, Nat.le_of_ble_eq_true rfl, rfl, Nat.le_of_ble_eq_true rfl⟩ (k_X12_lay (d + 12) h43) (show Rn N xs (d + 13) me225 178 [some (.ref 88), some (.int y0)] [] (SH, s44) r from ?_)
      refine Rn_sq srt225 91 1 (pc' := 179) (ls' := [some (.ref 88), some (.int y0)]) (st' := [(.int (ci 1))]) (h1 := (SH, s44)) rfl ?_
      rw [← Option.some.inj hJ] at hC
      have hC : r = (some (.int (ci 1)), (SH, s44)) := hC
      subst hC
      exact Rn_ret srt225 92 rfl rfl (m_ret_b rfl (by decide))
def F_X12_oneTest (rec : mG → Option (Int32 × mG)) (s : mG) : Option (Int32 × mG) :=
  if (s.1 88 17) = (c8 6) then
    b2 (F_X12_opens s) fun v4 s3 =>
    if v4 = 0 then
      F_X12_oneTest_23 rec s3
    else
      b2 (rec s3) fun v8 s7 =>
      if v8 = 0 then
        F_X12_oneTest_23 rec s7
      else
        let s10 : mG := (mu s7.1 88 23 ((s7.1 88 23) - (ci 1)), s7.2)
        b1 (F_X12_lay (c8 30) (ci 0) s10) fun s12 =>
        some ((ci 1), s12)
  else
    if (s.1 88 17) = (c16 140) then
      b2 (F_X12_opens s) fun v16 s15 =>
      if v16 = 0 then
        F_X12_oneTest_78 rec s15
      else
        b2 (F_X12_any rec s15) fun v20 s19 =>
        if v20 = 0 then
          F_X12_oneTest_78 rec s19
        else
          b2 (F_X12_need (c16 141) s19) fun v24 s23 =>
          if v24 = 0 then
            F_X12_oneTest_78 rec s23
          else
            let s26 : mG := (mu s23.1 88 23 ((s23.1 88 23) - (ci 1)), s23.2)
            some ((ci 1), s26)
    else
      b2 (F_X12_sumUp s) fun v29 s28 =>
      if v29 = 0 then
        some ((ci 0), s28)
      else
        if (s28.1 88 17) = (c16 160) then
          F_X12_oneTest_147 rec (c8 27) s28
        else
          if (s28.1 88 17) = (c16 161) then
            F_X12_oneTest_147 rec (c8 28) s28
          else
            if (s28.1 88 17) = (c16 162) then
              F_X12_oneTest_147 rec (c8 29) s28
            else
              F_X12_oneTest_147 rec (ci (-1)) s28
set_option maxRecDepth 4000 in
theorem k_X12_oneTest_r {N : Nat} {xs : Nat → Int32} (rec : mG → Option (Int32 × mG)) (d : Nat) (hrec : ∀ (s : mG) (τ : Int32 × mG), rec s = some τ → Rn N xs d me225 0 [some (.ref 88), none] [] (SH, s) (some (.int τ.1), (SH, τ.2))) {r : Option Value × mH} {s : mG} {τ : (Int32 × mG)} (hJ : F_X12_oneTest rec s = some τ) (hC : (fun τ => r = (some (.int τ.1), (SH, τ.2))) τ) : Rn N xs (d + 13) me225 0 [some (.ref 88), none] [] (SH, s) r := by
  unfold F_X12_oneTest at hJ
  refine Rn_sq srt225 0 4 (pc' := (if (s.1 88 17) = (c8 6) then 9 else 44)) (ls' := [some (.ref 88), none]) (st' := []) (h1 := (SH, s)) rfl (Rn_if (fun h1 => ?_) (fun h1 => ?_))
  · replace hJ := m_ifp h1 hJ
    refine Rn_sq srt225 4 1 (pc' := 10) (ls' := [some (.ref 88), none]) (st' := [(.ref 88)]) (h1 := (SH, s)) rfl ?_
    obtain ⟨v4, s3, h2, hJ⟩ := m_b2 hJ
    refine Rn_call srt225 5 rfl rfl rfl ⟨Nat.le_of_ble_eq_true rfl, Nat.le_of_ble_eq_true rfl, rfl, Nat.le_of_ble_eq_true rfl⟩ (k_X12_opens (d + 2) h2) (show Rn N xs (d + 13) me225 13 [some (.ref 88), none] [(.int v4)] (SH, s3) r from ?_)
    refine Rn_sq srt225 6 1 (pc' := (if v4 = 0 then 23 else 16)) (ls' := [some (.ref 88), none]) (st' := []) (h1 := (SH, s3)) rfl (Rn_if (fun h5 => ?_) (fun h5 => ?_))
    · replace hJ := m_ifp h5 hJ
      exact Rn_weaken (a := [none, none]) (b := [some (.ref 88), none]) trivial rfl (k_X12_oneTest_23 rec d hrec hJ hC)
    · replace hJ := m_ifn h5 hJ
      refine Rn_sq srt225 7 1 (pc' := 17) (ls' := [some (.ref 88), none]) (st' := [(.ref 88)]) (h1 := (SH, s3)) rfl ?_
      obtain ⟨v8, s7, h6, hJ⟩ := m_b2 hJ
      refine Rn_call srt225 8 rfl rfl rfl ⟨Nat.le_of_ble_eq_true rfl, Nat.le_of_ble_eq_true rfl, rfl, Nat.le_of_ble_eq_true rfl⟩ (Rn_dep 12 (hrec _ _ h6)) (show Rn N xs (d + 13) me225 20 [some (.ref 88), none] [(.int v8)] (SH, s7) r from ?_)
      refine Rn_sq srt225 9 1 (pc' := (if v8 = 0 then 23 else 25)) (ls' := [some (.ref 88), none]) (st' := []) (h1 := (SH, s7)) rfl (Rn_if (fun h9 => ?_) (fun h9 => ?_))
      · replace hJ := m_ifp h9 hJ
        exact Rn_weaken (a := [none, none]) (b := [some (.ref 88), none]) trivial rfl (k_X12_oneTest_23 rec d hrec hJ hC)
      · replace hJ := m_ifn h9 hJ
        extract_lets +onlyGivenNames s10 at hJ
        refine Rn_sq srt225 12 9 (pc' := 39) (ls' := [some (.ref 88), none]) (st' := [(.int (ci 0)), (.int (c8 30)), (.ref 88)]) (h1 := (SH, s10)) rfl ?_
        obtain ⟨s12, h11, hJ⟩ := m_b1 hJ
        refine Rn_call srt225 21 rfl rfl rfl ⟨Nat.le_of_ble_eq_true rfl, Nat.le_of_ble_eq_true rfl, rfl, Nat.le_of_ble_eq_true rfl⟩ (k_X12_lay (d + 12) h11) (show Rn N xs (d + 13) me225 42 [some (.ref 88), none] [] (SH, s12) r from ?_)
        refine Rn_sq srt225 22 1 (pc' := 43) (ls' := [some (.ref 88), none]) (st' := [(.int (ci 1))]) (h1 := (SH, s12)) rfl ?_
        rw [← Option.some.inj hJ] at hC
        have hC : r = (some (.int (ci 1)), (SH, s12)) := hC
        subst hC
        exact Rn_ret srt225 23 rfl rfl (m_ret_b rfl (by decide))
  · replace hJ := m_ifn h1 hJ
    refine Rn_sq srt225 24 4 (pc' := (if (s.1 88 17) = (c16 140) then 54 else 92)) (ls' := [some (.ref 88), none]) (st' := []) (h1 := (SH, s)) rfl (Rn_if (fun h13 => ?_) (fun h13 => ?_))
    · replace hJ := m_ifp h13 hJ
      refine Rn_sq srt225 28 1 (pc' := 55) (ls' := [some (.ref 88), none]) (st' := [(.ref 88)]) (h1 := (SH, s)) rfl ?_
      obtain ⟨v16, s15, h14, hJ⟩ := m_b2 hJ
      refine Rn_call srt225 29 rfl rfl rfl ⟨Nat.le_of_ble_eq_true rfl, Nat.le_of_ble_eq_true rfl, rfl, Nat.le_of_ble_eq_true rfl⟩ (k_X12_opens (d + 2) h14) (show Rn N xs (d + 13) me225 58 [some (.ref 88), none] [(.int v16)] (SH, s15) r from ?_)
      refine Rn_sq srt225 30 1 (pc' := (if v16 = 0 then 78 else 61)) (ls' := [some (.ref 88), none]) (st' := []) (h1 := (SH, s15)) rfl (Rn_if (fun h17 => ?_) (fun h17 => ?_))
      · replace hJ := m_ifp h17 hJ
        exact Rn_weaken (a := [none, none]) (b := [some (.ref 88), none]) trivial rfl (k_X12_oneTest_78 rec d hrec hJ hC)
      · replace hJ := m_ifn h17 hJ
        refine Rn_sq srt225 31 1 (pc' := 62) (ls' := [some (.ref 88), none]) (st' := [(.ref 88)]) (h1 := (SH, s15)) rfl ?_
        obtain ⟨v20, s19, h18, hJ⟩ := m_b2 hJ
        refine Rn_call srt225 32 rfl rfl rfl ⟨Nat.le_of_ble_eq_true rfl, Nat.le_of_ble_eq_true rfl, rfl, Nat.le_of_ble_eq_true rfl⟩ (Rn_dep 1 (k_X12_any rec d hrec h18)) (show Rn N xs (d + 13) me225 65 [some (.ref 88), none] [(.int v20)] (SH, s19) r from ?_)
        refine Rn_sq srt225 33 1 (pc' := (if v20 = 0 then 78 else 68)) (ls' := [some (.ref 88), none]) (st' := []) (h1 := (SH, s19)) rfl (Rn_if (fun h21 => ?_) (fun h21 => ?_))
        · replace hJ := m_ifp h21 hJ
          exact Rn_weaken (a := [none, none]) (b := [some (.ref 88), none]) trivial rfl (k_X12_oneTest_78 rec d hrec hJ hC)
        · replace hJ := m_ifn h21 hJ
          refine Rn_sq srt225 34 2 (pc' := 72) (ls' := [some (.ref 88), none]) (st' := [(.int (c16 141)), (.ref 88)]) (h1 := (SH, s19)) rfl ?_
          obtain ⟨v24, s23, h22, hJ⟩ := m_b2 hJ
          refine Rn_call srt225 36 rfl rfl rfl ⟨Nat.le_of_ble_eq_true rfl, Nat.le_of_ble_eq_true rfl, rfl, Nat.le_of_ble_eq_true rfl⟩ (k_X12_need (d + 2) h22) (show Rn N xs (d + 13) me225 75 [some (.ref 88), none] [(.int v24)] (SH, s23) r from ?_)
          refine Rn_sq srt225 37 1 (pc' := (if v24 = 0 then 78 else 80)) (ls' := [some (.ref 88), none]) (st' := []) (h1 := (SH, s23)) rfl (Rn_if (fun h25 => ?_) (fun h25 => ?_))
          · replace hJ := m_ifp h25 hJ
            exact Rn_weaken (a := [none, none]) (b := [some (.ref 88), none]) trivial rfl (k_X12_oneTest_78 rec d hrec hJ hC)
          · replace hJ := m_ifn h25 hJ
            extract_lets +onlyGivenNames s26 at hJ
            refine Rn_sq srt225 40 7 (pc' := 91) (ls' := [some (.ref 88), none]) (st' := [(.int (ci 1))]) (h1 := (SH, s26)) rfl ?_
            rw [← Option.some.inj hJ] at hC
            have hC : r = (some (.int (ci 1)), (SH, s26)) := hC
            subst hC
            exact Rn_ret srt225 47 rfl rfl (m_ret_b rfl (by decide))
    · replace hJ := m_ifn h13 hJ
      refine Rn_sq srt225 48 1 (pc' := 93) (ls' := [some (.ref 88), none]) (st' := [(.ref 88)]) (h1 := (SH, s)) rfl ?_
      obtain ⟨v29, s28, h27, hJ⟩ := m_b2 hJ
      refine Rn_call srt225 49 rfl rfl rfl ⟨Nat.le_of_ble_eq_true rfl, Nat.le_of_ble_eq_true rfl, rfl, Nat.le_of_ble_eq_true rfl⟩ (k_X12_sumUp (d) h27) (show Rn N xs (d + 13) me225 96 [some (.ref 88), none] [(.int v29)] (SH, s28) r from ?_)
      refine Rn_sq srt225 50 1 (pc' := (if v29 = 0 then 99 else 101)) (ls' := [some (.ref 88), none]) (st' := []) (h1 := (SH, s28)) rfl (Rn_if (fun h30 => ?_) (fun h30 => ?_))
      · replace hJ := m_ifp h30 hJ
        refine Rn_sq srt225 51 1 (pc' := 100) (ls' := [some (.ref 88), none]) (st' := [(.int (ci 0))]) (h1 := (SH, s28)) rfl ?_
        rw [← Option.some.inj hJ] at hC
        have hC : r = (some (.int (ci 0)), (SH, s28)) := hC
        subst hC
        exact Rn_ret srt225 52 rfl rfl (m_ret_b rfl (by decide))
      · replace hJ := m_ifn h30 hJ
        refine Rn_sq srt225 53 4 (pc' := (if (s28.1 88 17) = (c16 160) then 111 else 116)) (ls' := [some (.ref 88), none]) (st' := []) (h1 := (SH, s28)) rfl (Rn_if (fun h31 => ?_) (fun h31 => ?_))
        · replace hJ := m_ifp h31 hJ
          refine Rn_sq srt225 57 2 (pc' := 147) (ls' := [some (.ref 88), none]) (st' := [(.int (c8 27))]) (h1 := (SH, s28)) rfl ?_
          exact (k_X12_oneTest_147 rec d hrec hJ hC)
        · replace hJ := m_ifn h31 hJ
          refine Rn_sq srt225 59 4 (pc' := (if (s28.1 88 17) = (c16 161) then 126 else 131)) (ls' := [some (.ref 88), none]) (st' := []) (h1 := (SH, s28)) rfl (Rn_if (fun h45 => ?_) (fun h45 => ?_))
          · replace hJ := m_ifp h45 hJ
            refine Rn_sq srt225 63 2 (pc' := 147) (ls' := [some (.ref 88), none]) (st' := [(.int (c8 28))]) (h1 := (SH, s28)) rfl ?_
            exact (k_X12_oneTest_147 rec d hrec hJ hC)
          · replace hJ := m_ifn h45 hJ
            refine Rn_sq srt225 65 4 (pc' := (if (s28.1 88 17) = (c16 162) then 141 else 146)) (ls' := [some (.ref 88), none]) (st' := []) (h1 := (SH, s28)) rfl (Rn_if (fun h46 => ?_) (fun h46 => ?_))
            · replace hJ := m_ifp h46 hJ
              refine Rn_sq srt225 69 2 (pc' := 147) (ls' := [some (.ref 88), none]) (st' := [(.int (c8 29))]) (h1 := (SH, s28)) rfl ?_
              exact (k_X12_oneTest_147 rec d hrec hJ hC)
            · replace hJ := m_ifn h46 hJ
              refine Rn_sq srt225 71 1 (pc' := 147) (ls' := [some (.ref 88), none]) (st' := [(.int (ci (-1)))]) (h1 := (SH, s28)) rfl ?_
              exact (k_X12_oneTest_147 rec d hrec hJ hC)
theorem k_X12_oneTest {N : Nat} {xs : Nat → Int32} (rec : mG → Option (Int32 × mG)) (d : Nat) (hrec : ∀ (s : mG) (τ : Int32 × mG), rec s = some τ → Rn N xs d me225 0 [some (.ref 88), none] [] (SH, s) (some (.int τ.1), (SH, τ.2))) {s : mG} {τ : (Int32 × mG)} (hJ : F_X12_oneTest rec s = some τ) : Rn N xs (d + 13) me225 0 [some (.ref 88), none] [] (SH, s) (some (.int τ.1), (SH, τ.2)) := k_X12_oneTest_r rec d hrec hJ rfl
def Q_X12_oneTest : Nat → mG → Option (Int32 × mG)
  | 0 => fun _ => none
  | n + 1 => F_X12_oneTest (Q_X12_oneTest n)
theorem kQ_X12_oneTest {N : Nat} {xs : Nat → Int32} (d : Nat) : ∀ (n : Nat) (s : mG) (τ : Int32 × mG), Q_X12_oneTest n s = some τ → Rn N xs (d + 13 * n) me225 0 [some (.ref 88), none] [] (SH, s) (some (.int τ.1), (SH, τ.2)) := by
  intro n
  induction n with
  | zero => intro  s τ h; cases h
  | succ n ih =>
    intro  s τ h
    have h2 := k_X12_oneTest (N := N) (xs := xs) (Q_X12_oneTest n) (d + 13 * n) ih h
    rw [Nat.mul_succ, ← Nat.add_assoc]
    exact h2
def R_X12_oneTest : mG → Option (Int32 × mG) := Q_X12_oneTest 9
theorem kR_X12_oneTest {N : Nat} {xs : Nat → Int32} (d : Nat) : ∀ (s : mG) (τ : Int32 × mG), R_X12_oneTest s = some τ → Rn N xs (d + 117) me225 0 [some (.ref 88), none] [] (SH, s) (some (.int τ.1), (SH, τ.2)) :=
  fun s τ h => kQ_X12_oneTest d 9 s τ h
/-! IsHeInModel.aLine()Z -/
theorem srt226 : m_srt mc226 = true := by decide +kernel
def F_X12_aLine_123 (s : mG) : Option (Int32 × mG) :=
  if (((ci 4) * (s.1 88 12)) + (ci 2)) < 0 ∨ 64 ≤ (((ci 4) * (s.1 88 12)) + (ci 2)).toNatClampNeg then none else
  let s34 : mG := (mu s.1 92 (((ci 4) * (s.1 88 12)) + (ci 2)).toNatClampNeg (s.1 88 13), s.2)
  b2 (F_X12_need (c16 159) s34) fun v37 s36 =>
  if v37 = 0 ∨ v37 = 1 then
    some (v37, s36)
  else none
set_option maxRecDepth 4000 in
theorem k_X12_aLine_123 {N : Nat} {xs : Nat → Int32} (d : Nat) {r : Option Value × mH} {s : mG} {τ : (Int32 × mG)} (hJ : F_X12_aLine_123 s = some τ) (hC : (fun τ => r = (some (.int τ.1), (SH, τ.2))) τ) : Rn N xs (d + 129) me226 123 [some (.ref 88)] [] (SH, s) r := by
  unfold F_X12_aLine_123 at hJ
  refine Rn_sq srt226 70 10 (pc' := 139) (ls' := [some (.ref 88)]) (st' := [(.int (s.1 88 13)), (.int (((ci 4) * (s.1 88 12)) + (ci 2))), (.ref 92)]) (h1 := (SH, s)) rfl ?_
  obtain ⟨h33, hJ⟩ := m_gn hJ
  extract_lets +onlyGivenNames s34 at hJ
  refine Rn_ev srt226 80 rfl rfl rfl (op_ias sh92 h33 (k := (((ci 4) * (s.1 88 12)) + (ci 2)).toNatClampNeg) rfl) ?_
  refine Rn_sq srt226 81 2 (pc' := 144) (ls' := [some (.ref 88)]) (st' := [(.int (c16 159)), (.ref 88)]) (h1 := (SH, s34)) rfl ?_
  obtain ⟨v37, s36, h35, hJ⟩ := m_b2 hJ
  refine Rn_call srt226 83 rfl rfl rfl ⟨Nat.le_of_ble_eq_true rfl, Nat.le_of_ble_eq_true rfl, rfl, Nat.le_of_ble_eq_true rfl⟩ (k_X12_need (d + 118) h35) (show Rn N xs (d + 129) me226 147 [some (.ref 88)] [(.int v37)] (SH, s36) r from ?_)
  obtain ⟨h38, hJ⟩ := m_gp hJ
  rw [← Option.some.inj hJ] at hC
  have hC : r = (some (.int v37), (SH, s36)) := hC
  subst hC
  exact Rn_ret srt226 84 rfl rfl (m_ret_b rfl h38)
def F_X12_aLine (s : mG) : Option (Int32 × mG) :=
  b1 (F_X12_isIn s (s.1 88 17) (c8 20) (c8 25)) fun v2 =>
  if v2 = 0 then
    b2 (F_X12_bad (ci 1) s) fun v6 s5 =>
    if v6 = 0 ∨ v6 = 1 then
      some (v6, s5)
    else none
  else
    if (s.1 88 12) = (c8 16) then
      b2 (F_X12_bad (ci 3) s) fun v11 s10 =>
      if v11 = 0 ∨ v11 = 1 then
        some (v11, s10)
      else none
    else
      let s13 : mG := (mu s.1 88 23 (ci 0), s.2)
      if (((ci 4) * (s13.1 88 12)) + (ci 3)) < 0 ∨ 64 ≤ (((ci 4) * (s13.1 88 12)) + (ci 3)).toNatClampNeg then none else
      let s15 : mG := (mu s13.1 92 (((ci 4) * (s13.1 88 12)) + (ci 3)).toNatClampNeg (s13.1 88 17), s13.2)
      b1 (F_X12_next0 s15) fun s17 =>
      if ((ci 4) * (s17.1 88 12)) < 0 ∨ 64 ≤ ((ci 4) * (s17.1 88 12)).toNatClampNeg then none else
      let s19 : mG := (mu s17.1 92 ((ci 4) * (s17.1 88 12)).toNatClampNeg (s17.1 88 13), s17.2)
      b2 (F_X12_sumUp s19) fun v22 s21 =>
      if v22 = 0 then
        some ((ci 0), s21)
      else
        if (((ci 4) * (s21.1 88 12)) + (ci 1)) < 0 ∨ 64 ≤ (((ci 4) * (s21.1 88 12)) + (ci 1)).toNatClampNeg then none else
        let s25 : mG := (mu s21.1 92 (((ci 4) * (s21.1 88 12)) + (ci 1)).toNatClampNeg (s21.1 88 13), s21.2)
        if (s25.1 88 17) = (ci 3) then
          b1 (F_X12_next0 s25) fun s28 =>
          b2 (F_X12_any R_X12_oneTest s28) fun v31 s30 =>
          if v31 = 0 then
            some ((ci 0), s30)
          else
            F_X12_aLine_123 s30
        else
          F_X12_aLine_123 s25
set_option maxRecDepth 4000 in
theorem k_X12_aLine_r {N : Nat} {xs : Nat → Int32} (d : Nat) {r : Option Value × mH} {s : mG} {τ : (Int32 × mG)} (hJ : F_X12_aLine s = some τ) (hC : (fun τ => r = (some (.int τ.1), (SH, τ.2))) τ) : Rn N xs (d + 129) me226 0 [some (.ref 88)] [] (SH, s) r := by
  unfold F_X12_aLine at hJ
  refine Rn_sq srt226 0 4 (pc' := 8) (ls' := [some (.ref 88)]) (st' := [(.int (c8 25)), (.int (c8 20)), (.int (s.1 88 17))]) (h1 := (SH, s)) rfl ?_
  obtain ⟨v2, h1, hJ⟩ := m_b1 hJ
  refine Rn_call srt226 4 rfl rfl rfl ⟨Nat.le_of_ble_eq_true rfl, Nat.le_of_ble_eq_true rfl, rfl, Nat.le_of_ble_eq_true rfl⟩ (k_X12_isIn (d + 128) h1) (show Rn N xs (d + 129) me226 11 [some (.ref 88)] [(.int v2)] (SH, s) r from ?_)
  refine Rn_sq srt226 5 1 (pc' := (if v2 = 0 then 14 else 20)) (ls' := [some (.ref 88)]) (st' := []) (h1 := (SH, s)) rfl (Rn_if (fun h3 => ?_) (fun h3 => ?_))
  · replace hJ := m_ifp h3 hJ
    refine Rn_sq srt226 6 2 (pc' := 16) (ls' := [some (.ref 88)]) (st' := [(.int (ci 1)), (.ref 88)]) (h1 := (SH, s)) rfl ?_
    obtain ⟨v6, s5, h4, hJ⟩ := m_b2 hJ
    refine Rn_call srt226 8 rfl rfl rfl ⟨Nat.le_of_ble_eq_true rfl, Nat.le_of_ble_eq_true rfl, rfl, Nat.le_of_ble_eq_true rfl⟩ (k_X12_bad (d + 128) h4) (show Rn N xs (d + 129) me226 19 [some (.ref 88)] [(.int v6)] (SH, s5) r from ?_)
    obtain ⟨h7, hJ⟩ := m_gp hJ
    rw [← Option.some.inj hJ] at hC
    have hC : r = (some (.int v6), (SH, s5)) := hC
    subst hC
    exact Rn_ret srt226 9 rfl rfl (m_ret_b rfl h7)
  · replace hJ := m_ifn h3 hJ
    refine Rn_sq srt226 10 4 (pc' := (if (s.1 88 12) = (c8 16) then 29 else 35)) (ls' := [some (.ref 88)]) (st' := []) (h1 := (SH, s)) rfl (Rn_if (fun h8 => ?_) (fun h8 => ?_))
    · replace hJ := m_ifp h8 hJ
      refine Rn_sq srt226 14 2 (pc' := 31) (ls' := [some (.ref 88)]) (st' := [(.int (ci 3)), (.ref 88)]) (h1 := (SH, s)) rfl ?_
      obtain ⟨v11, s10, h9, hJ⟩ := m_b2 hJ
      refine Rn_call srt226 16 rfl rfl rfl ⟨Nat.le_of_ble_eq_true rfl, Nat.le_of_ble_eq_true rfl, rfl, Nat.le_of_ble_eq_true rfl⟩ (k_X12_bad (d + 128) h9) (show Rn N xs (d + 129) me226 34 [some (.ref 88)] [(.int v11)] (SH, s10) r from ?_)
      obtain ⟨h12, hJ⟩ := m_gp hJ
      rw [← Option.some.inj hJ] at hC
      have hC : r = (some (.int v11), (SH, s10)) := hC
      subst hC
      exact Rn_ret srt226 17 rfl rfl (m_ret_b rfl h12)
    · replace hJ := m_ifn h8 hJ
      extract_lets +onlyGivenNames s13 at hJ
      refine Rn_sq srt226 18 13 (pc' := 56) (ls' := [some (.ref 88)]) (st' := [(.int (s13.1 88 17)), (.int (((ci 4) * (s13.1 88 12)) + (ci 3))), (.ref 92)]) (h1 := (SH, s13)) rfl ?_
      obtain ⟨h14, hJ⟩ := m_gn hJ
      extract_lets +onlyGivenNames s15 at hJ
      refine Rn_ev srt226 31 rfl rfl rfl (op_ias sh92 h14 (k := (((ci 4) * (s13.1 88 12)) + (ci 3)).toNatClampNeg) rfl) ?_
      refine Rn_sq srt226 32 1 (pc' := 58) (ls' := [some (.ref 88)]) (st' := [(.ref 88)]) (h1 := (SH, s15)) rfl ?_
      obtain ⟨s17, h16, hJ⟩ := m_b1 hJ
      refine Rn_call srt226 33 rfl rfl rfl ⟨Nat.le_of_ble_eq_true rfl, Nat.le_of_ble_eq_true rfl, rfl, Nat.le_of_ble_eq_true rfl⟩ (k_X12_next0 (d + 119) h16) (show Rn N xs (d + 129) me226 61 [some (.ref 88)] [] (SH, s17) r from ?_)
      refine Rn_sq srt226 34 8 (pc' := 75) (ls' := [some (.ref 88)]) (st' := [(.int (s17.1 88 13)), (.int ((ci 4) * (s17.1 88 12))), (.ref 92)]) (h1 := (SH, s17)) rfl ?_
      obtain ⟨h18, hJ⟩ := m_gn hJ
      extract_lets +onlyGivenNames s19 at hJ
      refine Rn_ev srt226 42 rfl rfl rfl (op_ias sh92 h18 (k := ((ci 4) * (s17.1 88 12)).toNatClampNeg) rfl) ?_
      refine Rn_sq srt226 43 1 (pc' := 77) (ls' := [some (.ref 88)]) (st' := [(.ref 88)]) (h1 := (SH, s19)) rfl ?_
      obtain ⟨v22, s21, h20, hJ⟩ := m_b2 hJ
      refine Rn_call srt226 44 rfl rfl rfl ⟨Nat.le_of_ble_eq_true rfl, Nat.le_of_ble_eq_true rfl, rfl, Nat.le_of_ble_eq_true rfl⟩ (k_X12_sumUp (d + 116) h20) (show Rn N xs (d + 129) me226 80 [some (.ref 88)] [(.int v22)] (SH, s21) r from ?_)
      refine Rn_sq srt226 45 1 (pc' := (if v22 = 0 then 83 else 85)) (ls' := [some (.ref 88)]) (st' := []) (h1 := (SH, s21)) rfl (Rn_if (fun h23 => ?_) (fun h23 => ?_))
      · replace hJ := m_ifp h23 hJ
        refine Rn_sq srt226 46 1 (pc' := 84) (ls' := [some (.ref 88)]) (st' := [(.int (ci 0))]) (h1 := (SH, s21)) rfl ?_
        rw [← Option.some.inj hJ] at hC
        have hC : r = (some (.int (ci 0)), (SH, s21)) := hC
        subst hC
        exact Rn_ret srt226 47 rfl rfl (m_ret_b rfl (by decide))
      · replace hJ := m_ifn h23 hJ
        refine Rn_sq srt226 48 10 (pc' := 101) (ls' := [some (.ref 88)]) (st' := [(.int (s21.1 88 13)), (.int (((ci 4) * (s21.1 88 12)) + (ci 1))), (.ref 92)]) (h1 := (SH, s21)) rfl ?_
        obtain ⟨h24, hJ⟩ := m_gn hJ
        extract_lets +onlyGivenNames s25 at hJ
        refine Rn_ev srt226 58 rfl rfl rfl (op_ias sh92 h24 (k := (((ci 4) * (s21.1 88 12)) + (ci 1)).toNatClampNeg) rfl) ?_
        refine Rn_sq srt226 59 4 (pc' := (if (s25.1 88 17) = (ci 3) then 110 else 123)) (ls' := [some (.ref 88)]) (st' := []) (h1 := (SH, s25)) rfl (Rn_if (fun h26 => ?_) (fun h26 => ?_))
        · replace hJ := m_ifp h26 hJ
          refine Rn_sq srt226 63 1 (pc' := 111) (ls' := [some (.ref 88)]) (st' := [(.ref 88)]) (h1 := (SH, s25)) rfl ?_
          obtain ⟨s28, h27, hJ⟩ := m_b1 hJ
          refine Rn_call srt226 64 rfl rfl rfl ⟨Nat.le_of_ble_eq_true rfl, Nat.le_of_ble_eq_true rfl, rfl, Nat.le_of_ble_eq_true rfl⟩ (k_X12_next0 (d + 119) h27) (show Rn N xs (d + 129) me226 114 [some (.ref 88)] [] (SH, s28) r from ?_)
          refine Rn_sq srt226 65 1 (pc' := 115) (ls' := [some (.ref 88)]) (st' := [(.ref 88)]) (h1 := (SH, s28)) rfl ?_
          obtain ⟨v31, s30, h29, hJ⟩ := m_b2 hJ
          refine Rn_call srt226 66 rfl rfl rfl ⟨Nat.le_of_ble_eq_true rfl, Nat.le_of_ble_eq_true rfl, rfl, Nat.le_of_ble_eq_true rfl⟩ (Rn_dep 0 (k_X12_any R_X12_oneTest (d + 117) (kR_X12_oneTest d) h29)) (show Rn N xs (d + 129) me226 118 [some (.ref 88)] [(.int v31)] (SH, s30) r from ?_)
          refine Rn_sq srt226 67 1 (pc' := (if v31 = 0 then 121 else 123)) (ls' := [some (.ref 88)]) (st' := []) (h1 := (SH, s30)) rfl (Rn_if (fun h32 => ?_) (fun h32 => ?_))
          · replace hJ := m_ifp h32 hJ
            refine Rn_sq srt226 68 1 (pc' := 122) (ls' := [some (.ref 88)]) (st' := [(.int (ci 0))]) (h1 := (SH, s30)) rfl ?_
            rw [← Option.some.inj hJ] at hC
            have hC : r = (some (.int (ci 0)), (SH, s30)) := hC
            subst hC
            exact Rn_ret srt226 69 rfl rfl (m_ret_b rfl (by decide))
          · replace hJ := m_ifn h32 hJ
            exact (k_X12_aLine_123 d hJ hC)
        · replace hJ := m_ifn h26 hJ
          exact (k_X12_aLine_123 d hJ hC)
theorem k_X12_aLine {N : Nat} {xs : Nat → Int32} (d : Nat) {s : mG} {τ : (Int32 × mG)} (hJ : F_X12_aLine s = some τ) : Rn N xs (d + 129) me226 0 [some (.ref 88)] [] (SH, s) (some (.int τ.1), (SH, τ.2)) := k_X12_aLine_r d hJ rfl
/-! IsHeInModel.readsLaw()Z -/
theorem srt227 : m_srt mc227 = true := by decide +kernel
def C_X12_readsLaw_12 (N : Nat) (xs : Nat → Int32) (d : Nat) (r : Option Value × mH) (C : (Int32 × mG) → Prop) : ((Int32 × mG) ⊕ (Int32 × mG)) → Prop
  | .inl v => Rn N xs (d + 130) me227 12 [some (.ref 88), some (.int v.1)] [] (SH, v.2) r
  | .inr a => C a
def F_X12_readsLaw_49 (x1 : Int32) (s : mG) : Option (Int32 × mG) :=
  if x1 = 0 ∨ x1 = 1 then
    some (x1, s)
  else none
set_option maxRecDepth 4000 in
theorem k_X12_readsLaw_49 {N : Nat} {xs : Nat → Int32} (d : Nat) {r : Option Value × mH} {s : mG} {x1 : Int32} {τ : (Int32 × mG)} (hJ : F_X12_readsLaw_49 x1 s = some τ) (hC : (fun τ => r = (some (.int τ.1), (SH, τ.2))) τ) : Rn N xs (d + 130) me227 49 [none, some (.int x1)] [] (SH, s) r := by
  unfold F_X12_readsLaw_49 at hJ
  refine Rn_sq srt227 27 1 (pc' := 50) (ls' := [none, some (.int x1)]) (st' := [(.int x1)]) (h1 := (SH, s)) rfl ?_
  obtain ⟨h4, hJ⟩ := m_gp hJ
  rw [← Option.some.inj hJ] at hC
  have hC : r = (some (.int x1), (SH, s)) := hC
  subst hC
  exact Rn_ret srt227 28 rfl rfl (m_ret_b rfl h4)
def F_X12_readsLaw_42 (x1 : Int32) (y1 : Int32) (y2 : Int32) (s : mG) : Option ((Int32 × mG) ⊕ (Int32 × mG)) :=
  let s10 : mG := (mu s.1 88 12 (y1 + y2), s.2)
  some (Sum.inl (x1, s10))
set_option maxRecDepth 4000 in
theorem k_X12_readsLaw_42 {N : Nat} {xs : Nat → Int32} (d : Nat) {r : Option Value × mH} {s : mG} {x1 : Int32} {y1 : Int32} {y2 : Int32} {τ : ((Int32 × mG) ⊕ (Int32 × mG))} (hJ : F_X12_readsLaw_42 x1 y1 y2 s = some τ) (hC : (C_X12_readsLaw_12 N xs d r (fun τ => r = (some (.int τ.1), (SH, τ.2)))) τ) : Rn N xs (d + 130) me227 42 [some (.ref 88), some (.int x1)] [(.int y2), (.int y1), (.ref 88)] (SH, s) r := by
  unfold F_X12_readsLaw_42 at hJ
  extract_lets +onlyGivenNames s10 at hJ
  refine Rn_sq srt227 24 3 (pc' := 12) (ls' := [some (.ref 88), some (.int x1)]) (st' := []) (h1 := (SH, s10)) rfl ?_
  rw [← Option.some.inj hJ] at hC
  exact hC
def F_X12_readsLaw_B12 (x1 : Int32) (s : mG) : Option ((Int32 × mG) ⊕ (Int32 × mG)) :=
  if x1 = 0 then
    b1 (F_X12_readsLaw_49 x1 s) fun τ => some (Sum.inr τ)
  else
    if (s.1 88 17) = 0 then
      b1 (F_X12_readsLaw_49 x1 s) fun τ => some (Sum.inr τ)
    else
      b2 (F_X12_aLine s) fun v8 s7 =>
      if v8 = 0 then
        F_X12_readsLaw_42 v8 (s7.1 88 12) (ci 0) s7
      else
        F_X12_readsLaw_42 v8 (s7.1 88 12) (ci 1) s7
set_option maxRecDepth 4000 in
theorem k_X12_readsLaw_B12 {N : Nat} {xs : Nat → Int32} (d : Nat) {r : Option Value × mH} {s : mG} {x1 : Int32} {τ : ((Int32 × mG) ⊕ (Int32 × mG))} (hJ : F_X12_readsLaw_B12 x1 s = some τ) (hC : (C_X12_readsLaw_12 N xs d r (fun τ => r = (some (.int τ.1), (SH, τ.2)))) τ) : Rn N xs (d + 130) me227 12 [some (.ref 88), some (.int x1)] [] (SH, s) r := by
  unfold F_X12_readsLaw_B12 at hJ
  refine Rn_sq srt227 8 2 (pc' := (if x1 = 0 then 49 else 16)) (ls' := [some (.ref 88), some (.int x1)]) (st' := []) (h1 := (SH, s)) rfl (Rn_if (fun h3 => ?_) (fun h3 => ?_))
  · replace hJ := m_ifp h3 hJ
    obtain ⟨τ1, hJ1, hJ⟩ := m_b1 hJ
    rw [← Option.some.inj hJ] at hC
    exact Rn_weaken (a := [none, some (.int x1)]) (b := [some (.ref 88), some (.int x1)]) (And.intro rfl trivial) rfl (k_X12_readsLaw_49 d hJ1 hC)
  · replace hJ := m_ifn h3 hJ
    refine Rn_sq srt227 10 3 (pc' := (if (s.1 88 17) = 0 then 49 else 23)) (ls' := [some (.ref 88), some (.int x1)]) (st' := []) (h1 := (SH, s)) rfl (Rn_if (fun h5 => ?_) (fun h5 => ?_))
    · replace hJ := m_ifp h5 hJ
      obtain ⟨τ1, hJ1, hJ⟩ := m_b1 hJ
      rw [← Option.some.inj hJ] at hC
      exact Rn_weaken (a := [none, some (.int x1)]) (b := [some (.ref 88), some (.int x1)]) (And.intro rfl trivial) rfl (k_X12_readsLaw_49 d hJ1 hC)
    · replace hJ := m_ifn h5 hJ
      refine Rn_sq srt227 13 1 (pc' := 24) (ls' := [some (.ref 88), some (.int x1)]) (st' := [(.ref 88)]) (h1 := (SH, s)) rfl ?_
      obtain ⟨v8, s7, h6, hJ⟩ := m_b2 hJ
      refine Rn_call srt227 14 rfl rfl rfl ⟨Nat.le_of_ble_eq_true rfl, Nat.le_of_ble_eq_true rfl, rfl, Nat.le_of_ble_eq_true rfl⟩ (k_X12_aLine (d) h6) (show Rn N xs (d + 130) me227 27 [some (.ref 88), some (.int x1)] [(.int v8)] (SH, s7) r from ?_)
      refine Rn_sq srt227 15 6 (pc' := (if v8 = 0 then 41 else 37)) (ls' := [some (.ref 88), some (.int v8)]) (st' := [(.int (s7.1 88 12)), (.ref 88)]) (h1 := (SH, s7)) rfl (Rn_if (fun h9 => ?_) (fun h9 => ?_))
      · replace hJ := m_ifp h9 hJ
        refine Rn_sq srt227 23 1 (pc' := 42) (ls' := [some (.ref 88), some (.int v8)]) (st' := [(.int (ci 0)), (.int (s7.1 88 12)), (.ref 88)]) (h1 := (SH, s7)) rfl ?_
        exact (k_X12_readsLaw_42 d hJ hC)
      · replace hJ := m_ifn h9 hJ
        refine Rn_sq srt227 21 2 (pc' := 42) (ls' := [some (.ref 88), some (.int v8)]) (st' := [(.int (ci 1)), (.int (s7.1 88 12)), (.ref 88)]) (h1 := (SH, s7)) rfl ?_
        exact (k_X12_readsLaw_42 d hJ hC)
def F_X12_readsLaw_L12 (x1 : Int32) (s : mG) : Option (Int32 × mG) := whl (fun (v : (Int32 × mG)) => F_X12_readsLaw_B12 v.1 v.2) (x1, s)
theorem k_X12_readsLaw_L12 {N : Nat} {xs : Nat → Int32} (d : Nat) {r : Option Value × mH} {s : mG} {x1 : Int32} {τ : (Int32 × mG)} (hJ : F_X12_readsLaw_L12 x1 s = some τ) (hC : (fun τ => r = (some (.int τ.1), (SH, τ.2))) τ) : Rn N xs (d + 130) me227 12 [some (.ref 88), some (.int x1)] [] (SH, s) r :=
  whl_link (P := fun (v : (Int32 × mG)) => Rn N xs (d + 130) me227 12 [some (.ref 88), some (.int v.1)] [] (SH, v.2) r) (C := (C_X12_readsLaw_12 N xs d r (fun τ => r = (some (.int τ.1), (SH, τ.2))))) (fun v τ h1 h2 => k_X12_readsLaw_B12 d h1 h2) (fun _ h => h) (fun _ h => h) _ _ hJ hC
def F_X12_readsLaw (s : mG) : Option (Int32 × mG) :=
  let s1 : mG := (mu s.1 88 12 (ci 0), s.2)
  let s2 : mG := (mu s1.1 88 13 (ci 0), s1.2)
  F_X12_readsLaw_L12 (ci 1) s2
set_option maxRecDepth 4000 in
theorem k_X12_readsLaw_r {N : Nat} {xs : Nat → Int32} (d : Nat) {r : Option Value × mH} {s : mG} {τ : (Int32 × mG)} (hJ : F_X12_readsLaw s = some τ) (hC : (fun τ => r = (some (.int τ.1), (SH, τ.2))) τ) : Rn N xs (d + 130) me227 0 [some (.ref 88), none] [] (SH, s) r := by
  unfold F_X12_readsLaw at hJ
  extract_lets +onlyGivenNames s1 at hJ
  extract_lets +onlyGivenNames s2 at hJ
  refine Rn_sq srt227 0 8 (pc' := 12) (ls' := [some (.ref 88), some (.int (ci 1))]) (st' := []) (h1 := (SH, s2)) rfl ?_
  exact (k_X12_readsLaw_L12 d hJ hC)
theorem k_X12_readsLaw {N : Nat} {xs : Nat → Int32} (d : Nat) {s : mG} {τ : (Int32 × mG)} (hJ : F_X12_readsLaw s = some τ) : Rn N xs (d + 130) me227 0 [some (.ref 88), none] [] (SH, s) (some (.int τ.1), (SH, τ.2)) := k_X12_readsLaw_r d hJ rfl
end
