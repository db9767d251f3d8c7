noncomputable section
/-! IsHeInModel.number(II)Z -/
theorem srt228 : m_srt mc228 = true := by decide +kernel
def F_X12_number (a1 : Int32) (a2 : Int32) (s : mG) : Option (Int32 × mG) :=
  if (s.1 88 17) = (ci 2) then
    b1 (F_X12_isIn s (s.1 88 19) a1 a2) fun v3 =>
    if v3 = 0 then
      b2 (F_X12_bad (ci 2) s) fun v7 s6 =>
      if v7 = 0 ∨ v7 = 1 then
        some (v7, s6)
      else none
    else
      let s9 : mG := (mu s.1 88 25 (s.1 88 19), s.2)
      b1 (F_X12_next0 s9) fun s11 =>
      some ((ci 1), s11)
  else
    b2 (F_X12_bad (ci 1) s) fun v14 s13 =>
    if v14 = 0 ∨ v14 = 1 then
      some (v14, s13)
    else none
set_option maxRecDepth 4000 in
theorem k_X12_number_r {N : Nat} {xs : Nat → Int32} (d : Nat) {r : Option Value × mH} {s : mG} {a1 : Int32} {a2 : Int32} {τ : (Int32 × mG)} (hJ : F_X12_number a1 a2 s = some τ) (hC : (fun τ => r = (some (.int τ.1), (SH, τ.2))) τ) : Rn N xs (d + 10) me228 0 [some (.ref 88), some (.int a1), some (.int a2)] [] (SH, s) r := by
  unfold F_X12_number at hJ
  refine Rn_sq srt228 0 4 (pc' := (if (s.1 88 17) = (ci 2) then 14 else 8)) (ls' := [some (.ref 88), some (.int a1), some (.int a2)]) (st' := []) (h1 := (SH, s)) rfl (Rn_if (fun h1 => ?_) (fun h1 => ?_))
  · replace hJ := m_ifp h1 hJ
    refine Rn_sq srt228 8 4 (pc' := 20) (ls' := [some (.ref 88), some (.int a1), some (.int a2)]) (st' := [(.int a2), (.int a1), (.int (s.1 88 19))]) (h1 := (SH, s)) rfl ?_
    obtain ⟨v3, h2, hJ⟩ := m_b1 hJ
    refine Rn_call srt228 12 rfl rfl rfl ⟨Nat.le_of_ble_eq_true rfl, Nat.le_of_ble_eq_true rfl, rfl, Nat.le_of_ble_eq_true rfl⟩ (k_X12_isIn (d + 9) h2) (show Rn N xs (d + 10) me228 23 [some (.ref 88), some (.int a1), some (.int a2)] [(.int v3)] (SH, s) r from ?_)
    refine Rn_sq srt228 13 1 (pc' := (if v3 = 0 then 26 else 32)) (ls' := [some (.ref 88), some (.int a1), some (.int a2)]) (st' := []) (h1 := (SH, s)) rfl (Rn_if (fun h4 => ?_) (fun h4 => ?_))
    · replace hJ := m_ifp h4 hJ
      refine Rn_sq srt228 14 2 (pc' := 28) (ls' := [some (.ref 88), some (.int a1), some (.int a2)]) (st' := [(.int (ci 2)), (.ref 88)]) (h1 := (SH, s)) rfl ?_
      obtain ⟨v7, s6, h5, hJ⟩ := m_b2 hJ
      refine Rn_call srt228 16 rfl rfl rfl ⟨Nat.le_of_ble_eq_true rfl, Nat.le_of_ble_eq_true rfl, rfl, Nat.le_of_ble_eq_true rfl⟩ (k_X12_bad (d + 9) h5) (show Rn N xs (d + 10) me228 31 [some (.ref 88), some (.int a1), some (.int a2)] [(.int v7)] (SH, s6) r from ?_)
      obtain ⟨h8, hJ⟩ := m_gp hJ
      rw [← Option.some.inj hJ] at hC
      have hC : r = (some (.int v7), (SH, s6)) := hC
      subst hC
      exact Rn_ret srt228 17 rfl rfl (m_ret_b rfl h8)
    · replace hJ := m_ifn h4 hJ
      extract_lets +onlyGivenNames s9 at hJ
      refine Rn_sq srt228 18 5 (pc' := 41) (ls' := [some (.ref 88), some (.int a1), some (.int a2)]) (st' := [(.ref 88)]) (h1 := (SH, s9)) rfl ?_
      obtain ⟨s11, h10, hJ⟩ := m_b1 hJ
      refine Rn_call srt228 23 rfl rfl rfl ⟨Nat.le_of_ble_eq_true rfl, Nat.le_of_ble_eq_true rfl, rfl, Nat.le_of_ble_eq_true rfl⟩ (k_X12_next0 (d) h10) (show Rn N xs (d + 10) me228 44 [some (.ref 88), some (.int a1), some (.int a2)] [] (SH, s11) r from ?_)
      refine Rn_sq srt228 24 1 (pc' := 45) (ls' := [some (.ref 88), some (.int a1), some (.int a2)]) (st' := [(.int (ci 1))]) (h1 := (SH, s11)) rfl ?_
      rw [← Option.some.inj hJ] at hC
      have hC : r = (some (.int (ci 1)), (SH, s11)) := hC
      subst hC
      exact Rn_ret srt228 25 rfl rfl (m_ret_b rfl (by decide))
  · replace hJ := m_ifn h1 hJ
    refine Rn_sq srt228 4 2 (pc' := 10) (ls' := [some (.ref 88), some (.int a1), some (.int a2)]) (st' := [(.int (ci 1)), (.ref 88)]) (h1 := (SH, s)) rfl ?_
    obtain ⟨v14, s13, h12, hJ⟩ := m_b2 hJ
    refine Rn_call srt228 6 rfl rfl rfl ⟨Nat.le_of_ble_eq_true rfl, Nat.le_of_ble_eq_true rfl, rfl, Nat.le_of_ble_eq_true rfl⟩ (k_X12_bad (d + 9) h12) (show Rn N xs (d + 10) me228 13 [some (.ref 88), some (.int a1), some (.int a2)] [(.int v14)] (SH, s13) r from ?_)
    obtain ⟨h15, hJ⟩ := m_gp hJ
    rw [← Option.some.inj hJ] at hC
    have hC : r = (some (.int v14), (SH, s13)) := hC
    subst hC
    exact Rn_ret srt228 7 rfl rfl (m_ret_b rfl h15)
theorem k_X12_number {N : Nat} {xs : Nat → Int32} (d : Nat) {s : mG} {a1 : Int32} {a2 : Int32} {τ : (Int32 × mG)} (hJ : F_X12_number a1 a2 s = some τ) : Rn N xs (d + 10) me228 0 [some (.ref 88), some (.int a1), some (.int a2)] [] (SH, s) (some (.int τ.1), (SH, τ.2)) := k_X12_number_r d hJ rfl
/-! IsHeInModel.told(IIII)Z -/
theorem srt229 : m_srt mc229 = true := by decide +kernel
def F_X12_told_18 (s : mG) : Option (Int32 × mG) :=
  some ((ci 0), s)
set_option maxRecDepth 4000 in
theorem k_X12_told_18 {N : Nat} {xs : Nat → Int32} (d : Nat) {r : Option Value × mH} {s : mG} {τ : (Int32 × mG)} (hJ : F_X12_told_18 s = some τ) (hC : (fun τ => r = (some (.int τ.1), (SH, τ.2))) τ) : Rn N xs (d + 11) me229 18 [none, none, none, none, none] [] (SH, s) r := by
  unfold F_X12_told_18 at hJ
  refine Rn_sq srt229 9 1 (pc' := 19) (ls' := [none, none, none, none, none]) (st' := [(.int (ci 0))]) (h1 := (SH, s)) rfl ?_
  rw [← Option.some.inj hJ] at hC
  have hC : r = (some (.int (ci 0)), (SH, s)) := hC
  subst hC
  exact Rn_ret srt229 10 rfl rfl (m_ret_b rfl (by decide))
def F_X12_told (a1 : Int32) (a2 : Int32) (a3 : Int32) (a4 : Int32) (s : mG) : Option (Int32 × mG) :=
  b2 (F_X12_need a2 s) fun v3 s2 =>
  if v3 = 0 then
    F_X12_told_18 s2
  else
    b2 (F_X12_number a3 a4 s2) fun v7 s6 =>
    if v7 = 0 then
      F_X12_told_18 s6
    else
      if a1 < 0 ∨ 48 ≤ a1.toNatClampNeg then none else
      let s10 : mG := (mu s6.1 94 a1.toNatClampNeg (s6.1 88 25), s6.2)
      some ((ci 1), s10)
set_option maxRecDepth 4000 in
theorem k_X12_told_r {N : Nat} {xs : Nat → Int32} (d : Nat) {r : Option Value × mH} {s : mG} {a1 : Int32} {a2 : Int32} {a3 : Int32} {a4 : Int32} {τ : (Int32 × mG)} (hJ : F_X12_told a1 a2 a3 a4 s = some τ) (hC : (fun τ => r = (some (.int τ.1), (SH, τ.2))) τ) : Rn N xs (d + 11) me229 0 [some (.ref 88), some (.int a1), some (.int a2), some (.int a3), some (.int a4)] [] (SH, s) r := by
  unfold F_X12_told at hJ
  refine Rn_sq srt229 0 2 (pc' := 2) (ls' := [some (.ref 88), some (.int a1), some (.int a2), some (.int a3), some (.int a4)]) (st' := [(.int a2), (.ref 88)]) (h1 := (SH, s)) rfl ?_
  obtain ⟨v3, s2, h1, hJ⟩ := m_b2 hJ
  refine Rn_call srt229 2 rfl rfl rfl ⟨Nat.le_of_ble_eq_true rfl, Nat.le_of_ble_eq_true rfl, rfl, Nat.le_of_ble_eq_true rfl⟩ (k_X12_need (d) h1) (show Rn N xs (d + 11) me229 5 [some (.ref 88), some (.int a1), some (.int a2), some (.int a3), some (.int a4)] [(.int v3)] (SH, s2) r from ?_)
  refine Rn_sq srt229 3 1 (pc' := (if v3 = 0 then 18 else 8)) (ls' := [some (.ref 88), some (.int a1), some (.int a2), some (.int a3), some (.int a4)]) (st' := []) (h1 := (SH, s2)) rfl (Rn_if (fun h4 => ?_) (fun h4 => ?_))
  · replace hJ := m_ifp h4 hJ
    exact Rn_weaken (a := [none, none, none, none, none]) (b := [some (.ref 88), some (.int a1), some (.int a2), some (.int a3), some (.int a4)]) trivial rfl (k_X12_told_18 d hJ hC)
  · replace hJ := m_ifn h4 hJ
    refine Rn_sq srt229 4 3 (pc' := 12) (ls' := [some (.ref 88), some (.int a1), some (.int a2), some (.int a3), some (.int a4)]) (st' := [(.int a4), (.int a3), (.ref 88)]) (h1 := (SH, s2)) rfl ?_
    obtain ⟨v7, s6, h5, hJ⟩ := m_b2 hJ
    refine Rn_call srt229 7 rfl rfl rfl ⟨Nat.le_of_ble_eq_true rfl, Nat.le_of_ble_eq_true rfl, rfl, Nat.le_of_ble_eq_true rfl⟩ (k_X12_number (d) h5) (show Rn N xs (d + 11) me229 15 [some (.ref 88), some (.int a1), some (.int a2), some (.int a3), some (.int a4)] [(.int v7)] (SH, s6) r from ?_)
    refine Rn_sq srt229 8 1 (pc' := (if v7 = 0 then 18 else 20)) (ls' := [some (.ref 88), some (.int a1), some (.int a2), some (.int a3), some (.int a4)]) (st' := []) (h1 := (SH, s6)) rfl (Rn_if (fun h8 => ?_) (fun h8 => ?_))
    · replace hJ := m_ifp h8 hJ
      exact Rn_weaken (a := [none, none, none, none, none]) (b := [some (.ref 88), some (.int a1), some (.int a2), some (.int a3), some (.int a4)]) trivial rfl (k_X12_told_18 d hJ hC)
    · replace hJ := m_ifn h8 hJ
      refine Rn_sq srt229 11 5 (pc' := 29) (ls' := [some (.ref 88), some (.int a1), some (.int a2), some (.int a3), some (.int a4)]) (st' := [(.int (s6.1 88 25)), (.int a1), (.ref 94)]) (h1 := (SH, s6)) rfl ?_
      obtain ⟨h9, hJ⟩ := m_gn hJ
      extract_lets +onlyGivenNames s10 at hJ
      refine Rn_ev srt229 16 rfl rfl rfl (op_ias sh94 h9 (k := a1.toNatClampNeg) rfl) ?_
      refine Rn_sq srt229 17 1 (pc' := 31) (ls' := [some (.ref 88), some (.int a1), some (.int a2), some (.int a3), some (.int a4)]) (st' := [(.int (ci 1))]) (h1 := (SH, s10)) rfl ?_
      rw [← Option.some.inj hJ] at hC
      have hC : r = (some (.int (ci 1)), (SH, s10)) := hC
      subst hC
      exact Rn_ret srt229 18 rfl rfl (m_ret_b rfl (by decide))
theorem k_X12_told {N : Nat} {xs : Nat → Int32} (d : Nat) {s : mG} {a1 : Int32} {a2 : Int32} {a3 : Int32} {a4 : Int32} {τ : (Int32 × mG)} (hJ : F_X12_told a1 a2 a3 a4 s = some τ) : Rn N xs (d + 11) me229 0 [some (.ref 88), some (.int a1), some (.int a2), some (.int a3), some (.int a4)] [] (SH, s) (some (.int τ.1), (SH, τ.2)) := k_X12_told_r d hJ rfl
/-! IsHeInModel.aSign()Z -/
theorem srt230 : m_srt mc230 = true := by decide +kernel
def F_X12_aSign_63 (s : mG) : Option (Int32 × mG) :=
  some ((ci 0), s)
set_option maxRecDepth 4000 in
theorem k_X12_aSign_63 {N : Nat} {xs : Nat → Int32} (d : Nat) {r : Option Value × mH} {s : mG} {τ : (Int32 × mG)} (hJ : F_X12_aSign_63 s = some τ) (hC : (fun τ => r = (some (.int τ.1), (SH, τ.2))) τ) : Rn N xs (d + 12) me230 63 [none] [] (SH, s) r := by
  unfold F_X12_aSign_63 at hJ
  refine Rn_sq srt230 32 1 (pc' := 64) (ls' := [none]) (st' := [(.int (ci 0))]) (h1 := (SH, s)) rfl ?_
  rw [← Option.some.inj hJ] at hC
  have hC : r = (some (.int (ci 0)), (SH, s)) := hC
  subst hC
  exact Rn_ret srt230 33 rfl rfl (m_ret_b rfl (by decide))
def F_X12_aSign (s : mG) : Option (Int32 × mG) :=
  b2 (F_X12_need (c8 7) s) fun v3 s2 =>
  if v3 = 0 then
    F_X12_aSign_63 s2
  else
    b2 (F_X12_told ((ci 2) * (s2.1 88 14)) (c8 8) (ci 1) (c16 999) s2) fun v7 s6 =>
    if v7 = 0 then
      F_X12_aSign_63 s6
    else
      b2 (F_X12_told (((ci 2) * (s6.1 88 14)) + (ci 1)) (c8 9) (ci 1) (c16 999) s6) fun v11 s10 =>
      if v11 = 0 then
        F_X12_aSign_63 s10
      else
        b2 (F_X12_need (c16 159) s10) fun v15 s14 =>
        if v15 = 0 then
          F_X12_aSign_63 s14
        else
          some ((ci 1), s14)
set_option maxRecDepth 4000 in
theorem k_X12_aSign_r {N : Nat} {xs : Nat → Int32} (d : Nat) {r : Option Value × mH} {s : mG} {τ : (Int32 × mG)} (hJ : F_X12_aSign s = some τ) (hC : (fun τ => r = (some (.int τ.1), (SH, τ.2))) τ) : Rn N xs (d + 12) me230 0 [some (.ref 88)] [] (SH, s) r := by
  unfold F_X12_aSign at hJ
  refine Rn_sq srt230 0 2 (pc' := 3) (ls' := [some (.ref 88)]) (st' := [(.int (c8 7)), (.ref 88)]) (h1 := (SH, s)) rfl ?_
  obtain ⟨v3, s2, h1, hJ⟩ := m_b2 hJ
  refine Rn_call srt230 2 rfl rfl rfl ⟨Nat.le_of_ble_eq_true rfl, Nat.le_of_ble_eq_true rfl, rfl, Nat.le_of_ble_eq_true rfl⟩ (k_X12_need (d + 1) h1) (show Rn N xs (d + 12) me230 6 [some (.ref 88)] [(.int v3)] (SH, s2) r from ?_)
  refine Rn_sq srt230 3 1 (pc' := (if v3 = 0 then 63 else 9)) (ls' := [some (.ref 88)]) (st' := []) (h1 := (SH, s2)) rfl (Rn_if (fun h4 => ?_) (fun h4 => ?_))
  · replace hJ := m_ifp h4 hJ
    exact Rn_weaken (a := [none]) (b := [some (.ref 88)]) trivial rfl (k_X12_aSign_63 d hJ hC)
  · replace hJ := m_ifn h4 hJ
    refine Rn_sq srt230 4 8 (pc' := 22) (ls' := [some (.ref 88)]) (st' := [(.int (c16 999)), (.int (ci 1)), (.int (c8 8)), (.int ((ci 2) * (s2.1 88 14))), (.ref 88)]) (h1 := (SH, s2)) rfl ?_
    obtain ⟨v7, s6, h5, hJ⟩ := m_b2 hJ
    refine Rn_call srt230 12 rfl rfl rfl ⟨Nat.le_of_ble_eq_true rfl, Nat.le_of_ble_eq_true rfl, rfl, Nat.le_of_ble_eq_true rfl⟩ (k_X12_told (d) h5) (show Rn N xs (d + 12) me230 25 [some (.ref 88)] [(.int v7)] (SH, s6) r from ?_)
    refine Rn_sq srt230 13 1 (pc' := (if v7 = 0 then 63 else 28)) (ls' := [some (.ref 88)]) (st' := []) (h1 := (SH, s6)) rfl (Rn_if (fun h8 => ?_) (fun h8 => ?_))
    · replace hJ := m_ifp h8 hJ
      exact Rn_weaken (a := [none]) (b := [some (.ref 88)]) trivial rfl (k_X12_aSign_63 d hJ hC)
    · replace hJ := m_ifn h8 hJ
      refine Rn_sq srt230 14 10 (pc' := 43) (ls' := [some (.ref 88)]) (st' := [(.int (c16 999)), (.int (ci 1)), (.int (c8 9)), (.int (((ci 2) * (s6.1 88 14)) + (ci 1))), (.ref 88)]) (h1 := (SH, s6)) rfl ?_
      obtain ⟨v11, s10, h9, hJ⟩ := m_b2 hJ
      refine Rn_call srt230 24 rfl rfl rfl ⟨Nat.le_of_ble_eq_true rfl, Nat.le_of_ble_eq_true rfl, rfl, Nat.le_of_ble_eq_true rfl⟩ (k_X12_told (d) h9) (show Rn N xs (d + 12) me230 46 [some (.ref 88)] [(.int v11)] (SH, s10) r from ?_)
      refine Rn_sq srt230 25 1 (pc' := (if v11 = 0 then 63 else 49)) (ls' := [some (.ref 88)]) (st' := []) (h1 := (SH, s10)) rfl (Rn_if (fun h12 => ?_) (fun h12 => ?_))
      · replace hJ := m_ifp h12 hJ
        exact Rn_weaken (a := [none]) (b := [some (.ref 88)]) trivial rfl (k_X12_aSign_63 d hJ hC)
      · replace hJ := m_ifn h12 hJ
        refine Rn_sq srt230 26 2 (pc' := 53) (ls' := [some (.ref 88)]) (st' := [(.int (c16 159)), (.ref 88)]) (h1 := (SH, s10)) rfl ?_
        obtain ⟨v15, s14, h13, hJ⟩ := m_b2 hJ
        refine Rn_call srt230 28 rfl rfl rfl ⟨Nat.le_of_ble_eq_true rfl, Nat.le_of_ble_eq_true rfl, rfl, Nat.le_of_ble_eq_true rfl⟩ (k_X12_need (d + 1) h13) (show Rn N xs (d + 12) me230 56 [some (.ref 88)] [(.int v15)] (SH, s14) r from ?_)
        refine Rn_sq srt230 29 1 (pc' := (if v15 = 0 then 63 else 59)) (ls' := [some (.ref 88)]) (st' := []) (h1 := (SH, s14)) rfl (Rn_if (fun h16 => ?_) (fun h16 => ?_))
        · replace hJ := m_ifp h16 hJ
          exact Rn_weaken (a := [none]) (b := [some (.ref 88)]) trivial rfl (k_X12_aSign_63 d hJ hC)
        · replace hJ := m_ifn h16 hJ
          refine Rn_sq srt230 30 2 (pc' := 64) (ls' := [some (.ref 88)]) (st' := [(.int (ci 1))]) (h1 := (SH, s14)) rfl ?_
          rw [← Option.some.inj hJ] at hC
          have hC : r = (some (.int (ci 1)), (SH, s14)) := hC
          subst hC
          exact Rn_ret srt230 33 rfl rfl (m_ret_b rfl (by decide))
theorem k_X12_aSign {N : Nat} {xs : Nat → Int32} (d : Nat) {s : mG} {τ : (Int32 × mG)} (hJ : F_X12_aSign s = some τ) : Rn N xs (d + 12) me230 0 [some (.ref 88)] [] (SH, s) (some (.int τ.1), (SH, τ.2)) := k_X12_aSign_r d hJ rfl
/-! IsHeInModel.aShift()Z -/
theorem srt231 : m_srt mc231 = true := by decide +kernel
def F_X12_aShift_90 (s : mG) : Option (Int32 × mG) :=
  some ((ci 0), s)
set_option maxRecDepth 4000 in
theorem k_X12_aShift_90 {N : Nat} {xs : Nat → Int32} (d : Nat) {r : Option Value × mH} {s : mG} {τ : (Int32 × mG)} (hJ : F_X12_aShift_90 s = some τ) (hC : (fun τ => r = (some (.int τ.1), (SH, τ.2))) τ) : Rn N xs (d + 12) me231 90 [none] [] (SH, s) r := by
  unfold F_X12_aShift_90 at hJ
  refine Rn_sq srt231 52 1 (pc' := 91) (ls' := [none]) (st' := [(.int (ci 0))]) (h1 := (SH, s)) rfl ?_
  rw [← Option.some.inj hJ] at hC
  have hC : r = (some (.int (ci 0)), (SH, s)) := hC
  subst hC
  exact Rn_ret srt231 53 rfl rfl (m_ret_b rfl (by decide))
def F_X12_aShift (s : mG) : Option (Int32 × mG) :=
  b2 (F_X12_told ((ci 4) * (s.1 88 14)) (c8 10) (ci 0) (ci 3) s) fun v3 s2 =>
  if v3 = 0 then
    F_X12_aShift_90 s2
  else
    b2 (F_X12_told (((ci 4) * (s2.1 88 14)) + (ci 1)) (c8 11) (ci 0) (c8 23) s2) fun v7 s6 =>
    if v7 = 0 then
      F_X12_aShift_90 s6
    else
      b2 (F_X12_told (((ci 4) * (s6.1 88 14)) + (ci 2)) (c8 12) (ci 1) (c8 24) s6) fun v11 s10 =>
      if v11 = 0 then
        F_X12_aShift_90 s10
      else
        b2 (F_X12_told (((ci 4) * (s10.1 88 14)) + (ci 3)) (c8 13) (ci 0) (ci 1) s10) fun v15 s14 =>
        if v15 = 0 then
          F_X12_aShift_90 s14
        else
          b2 (F_X12_need (c16 159) s14) fun v19 s18 =>
          if v19 = 0 then
            F_X12_aShift_90 s18
          else
            some ((ci 1), s18)
set_option maxRecDepth 4000 in
theorem k_X12_aShift_r {N : Nat} {xs : Nat → Int32} (d : Nat) {r : Option Value × mH} {s : mG} {τ : (Int32 × mG)} (hJ : F_X12_aShift s = some τ) (hC : (fun τ => r = (some (.int τ.1), (SH, τ.2))) τ) : Rn N xs (d + 12) me231 0 [some (.ref 88)] [] (SH, s) r := by
  unfold F_X12_aShift at hJ
  refine Rn_sq srt231 0 8 (pc' := 11) (ls' := [some (.ref 88)]) (st' := [(.int (ci 3)), (.int (ci 0)), (.int (c8 10)), (.int ((ci 4) * (s.1 88 14))), (.ref 88)]) (h1 := (SH, s)) rfl ?_
  obtain ⟨v3, s2, h1, hJ⟩ := m_b2 hJ
  refine Rn_call srt231 8 rfl rfl rfl ⟨Nat.le_of_ble_eq_true rfl, Nat.le_of_ble_eq_true rfl, rfl, Nat.le_of_ble_eq_true rfl⟩ (k_X12_told (d) h1) (show Rn N xs (d + 12) me231 14 [some (.ref 88)] [(.int v3)] (SH, s2) r from ?_)
  refine Rn_sq srt231 9 1 (pc' := (if v3 = 0 then 90 else 17)) (ls' := [some (.ref 88)]) (st' := []) (h1 := (SH, s2)) rfl (Rn_if (fun h4 => ?_) (fun h4 => ?_))
  · replace hJ := m_ifp h4 hJ
    exact Rn_weaken (a := [none]) (b := [some (.ref 88)]) trivial rfl (k_X12_aShift_90 d hJ hC)
  · replace hJ := m_ifn h4 hJ
    refine Rn_sq srt231 10 10 (pc' := 31) (ls' := [some (.ref 88)]) (st' := [(.int (c8 23)), (.int (ci 0)), (.int (c8 11)), (.int (((ci 4) * (s2.1 88 14)) + (ci 1))), (.ref 88)]) (h1 := (SH, s2)) rfl ?_
    obtain ⟨v7, s6, h5, hJ⟩ := m_b2 hJ
    refine Rn_call srt231 20 rfl rfl rfl ⟨Nat.le_of_ble_eq_true rfl, Nat.le_of_ble_eq_true rfl, rfl, Nat.le_of_ble_eq_true rfl⟩ (k_X12_told (d) h5) (show Rn N xs (d + 12) me231 34 [some (.ref 88)] [(.int v7)] (SH, s6) r from ?_)
    refine Rn_sq srt231 21 1 (pc' := (if v7 = 0 then 90 else 37)) (ls' := [some (.ref 88)]) (st' := []) (h1 := (SH, s6)) rfl (Rn_if (fun h8 => ?_) (fun h8 => ?_))
    · replace hJ := m_ifp h8 hJ
      exact Rn_weaken (a := [none]) (b := [some (.ref 88)]) trivial rfl (k_X12_aShift_90 d hJ hC)
    · replace hJ := m_ifn h8 hJ
      refine Rn_sq srt231 22 10 (pc' := 51) (ls' := [some (.ref 88)]) (st' := [(.int (c8 24)), (.int (ci 1)), (.int (c8 12)), (.int (((ci 4) * (s6.1 88 14)) + (ci 2))), (.ref 88)]) (h1 := (SH, s6)) rfl ?_
      obtain ⟨v11, s10, h9, hJ⟩ := m_b2 hJ
      refine Rn_call srt231 32 rfl rfl rfl ⟨Nat.le_of_ble_eq_true rfl, Nat.le_of_ble_eq_true rfl, rfl, Nat.le_of_ble_eq_true rfl⟩ (k_X12_told (d) h9) (show Rn N xs (d + 12) me231 54 [some (.ref 88)] [(.int v11)] (SH, s10) r from ?_)
      refine Rn_sq srt231 33 1 (pc' := (if v11 = 0 then 90 else 57)) (ls' := [some (.ref 88)]) (st' := []) (h1 := (SH, s10)) rfl (Rn_if (fun h12 => ?_) (fun h12 => ?_))
      · replace hJ := m_ifp h12 hJ
        exact Rn_weaken (a := [none]) (b := [some (.ref 88)]) trivial rfl (k_X12_aShift_90 d hJ hC)
      · replace hJ := m_ifn h12 hJ
        refine Rn_sq srt231 34 10 (pc' := 70) (ls' := [some (.ref 88)]) (st' := [(.int (ci 1)), (.int (ci 0)), (.int (c8 13)), (.int (((ci 4) * (s10.1 88 14)) + (ci 3))), (.ref 88)]) (h1 := (SH, s10)) rfl ?_
        obtain ⟨v15, s14, h13, hJ⟩ := m_b2 hJ
        refine Rn_call srt231 44 rfl rfl rfl ⟨Nat.le_of_ble_eq_true rfl, Nat.le_of_ble_eq_true rfl, rfl, Nat.le_of_ble_eq_true rfl⟩ (k_X12_told (d) h13) (show Rn N xs (d + 12) me231 73 [some (.ref 88)] [(.int v15)] (SH, s14) r from ?_)
        refine Rn_sq srt231 45 1 (pc' := (if v15 = 0 then 90 else 76)) (ls' := [some (.ref 88)]) (st' := []) (h1 := (SH, s14)) rfl (Rn_if (fun h16 => ?_) (fun h16 => ?_))
        · replace hJ := m_ifp h16 hJ
          exact Rn_weaken (a := [none]) (b := [some (.ref 88)]) trivial rfl (k_X12_aShift_90 d hJ hC)
        · replace hJ := m_ifn h16 hJ
          refine Rn_sq srt231 46 2 (pc' := 80) (ls' := [some (.ref 88)]) (st' := [(.int (c16 159)), (.ref 88)]) (h1 := (SH, s14)) rfl ?_
          obtain ⟨v19, s18, h17, hJ⟩ := m_b2 hJ
          refine Rn_call srt231 48 rfl rfl rfl ⟨Nat.le_of_ble_eq_true rfl, Nat.le_of_ble_eq_true rfl, rfl, Nat.le_of_ble_eq_true rfl⟩ (k_X12_need (d + 1) h17) (show Rn N xs (d + 12) me231 83 [some (.ref 88)] [(.int v19)] (SH, s18) r from ?_)
          refine Rn_sq srt231 49 1 (pc' := (if v19 = 0 then 90 else 86)) (ls' := [some (.ref 88)]) (st' := []) (h1 := (SH, s18)) rfl (Rn_if (fun h20 => ?_) (fun h20 => ?_))
          · replace hJ := m_ifp h20 hJ
            exact Rn_weaken (a := [none]) (b := [some (.ref 88)]) trivial rfl (k_X12_aShift_90 d hJ hC)
          · replace hJ := m_ifn h20 hJ
            refine Rn_sq srt231 50 2 (pc' := 91) (ls' := [some (.ref 88)]) (st' := [(.int (ci 1))]) (h1 := (SH, s18)) rfl ?_
            rw [← Option.some.inj hJ] at hC
            have hC : r = (some (.int (ci 1)), (SH, s18)) := hC
            subst hC
            exact Rn_ret srt231 53 rfl rfl (m_ret_b rfl (by decide))
theorem k_X12_aShift {N : Nat} {xs : Nat → Int32} (d : Nat) {s : mG} {τ : (Int32 × mG)} (hJ : F_X12_aShift s = some τ) : Rn N xs (d + 12) me231 0 [some (.ref 88)] [] (SH, s) (some (.int τ.1), (SH, τ.2)) := k_X12_aShift_r d hJ rfl
/-! IsHeInModel.readsRows()Z -/
theorem srt232 : m_srt mc232 = true := by decide +kernel
def C_X12_readsRows_7 (N : Nat) (xs : Nat → Int32) (d : Nat) (r : Option Value × mH) (C : (Int32 × mG) → Prop) : ((Int32 × mG) ⊕ (Int32 × mG)) → Prop
  | .inl v => Rn N xs (d + 13) me232 7 [some (.ref 88), some (.int v.1)] [] (SH, v.2) r
  | .inr a => C a
def F_X12_readsRows_115 (x1 : Int32) (s : mG) : Option (Int32 × mG) :=
  if x1 = 0 ∨ x1 = 1 then
    some (x1, s)
  else none
set_option maxRecDepth 4000 in
theorem k_X12_readsRows_115 {N : Nat} {xs : Nat → Int32} (d : Nat) {r : Option Value × mH} {s : mG} {x1 : Int32} {τ : (Int32 × mG)} (hJ : F_X12_readsRows_115 x1 s = some τ) (hC : (fun τ => r = (some (.int τ.1), (SH, τ.2))) τ) : Rn N xs (d + 13) me232 115 [none, some (.int x1)] [] (SH, s) r := by
  unfold F_X12_readsRows_115 at hJ
  refine Rn_sq srt232 59 1 (pc' := 116) (ls' := [none, some (.int x1)]) (st' := [(.int x1)]) (h1 := (SH, s)) rfl ?_
  obtain ⟨h3, hJ⟩ := m_gp hJ
  rw [← Option.some.inj hJ] at hC
  have hC : r = (some (.int x1), (SH, s)) := hC
  subst hC
  exact Rn_ret srt232 60 rfl rfl (m_ret_b rfl h3)
def F_X12_readsRows_108 (x1 : Int32) (y1 : Int32) (y2 : Int32) (s : mG) : Option ((Int32 × mG) ⊕ (Int32 × mG)) :=
  let s18 : mG := (mu s.1 88 14 (y1 + y2), s.2)
  some (Sum.inl (x1, s18))
set_option maxRecDepth 4000 in
theorem k_X12_readsRows_108 {N : Nat} {xs : Nat → Int32} (d : Nat) {r : Option Value × mH} {s : mG} {x1 : Int32} {y1 : Int32} {y2 : Int32} {τ : ((Int32 × mG) ⊕ (Int32 × mG))} (hJ : F_X12_readsRows_108 x1 y1 y2 s = some τ) (hC : (C_X12_readsRows_7 N xs d r (fun τ => r = (some (.int τ.1), (SH, τ.2)))) τ) : Rn N xs (d + 13) me232 108 [some (.ref 88), some (.int x1)] [(.int y2), (.int y1), (.ref 88)] (SH, s) r := by
  unfold F_X12_readsRows_108 at hJ
  extract_lets +onlyGivenNames s18 at hJ
  refine Rn_sq srt232 56 3 (pc' := 7) (ls' := [some (.ref 88), some (.int x1)]) (st' := []) (h1 := (SH, s18)) rfl ?_
  rw [← Option.some.inj hJ] at hC
  exact hC
def F_X12_readsRows_93 (y0 : Int32) (s : mG) : Option ((Int32 × mG) ⊕ (Int32 × mG)) :=
  if y0 = 0 then
    F_X12_readsRows_108 y0 (s.1 88 14) (ci 0) s
  else
    F_X12_readsRows_108 y0 (s.1 88 14) (ci 1) s
set_option maxRecDepth 4000 in
theorem k_X12_readsRows_93 {N : Nat} {xs : Nat → Int32} (d : Nat) {r : Option Value × mH} {s : mG} {y0 : Int32} {τ : ((Int32 × mG) ⊕ (Int32 × mG))} (hJ : F_X12_readsRows_93 y0 s = some τ) (hC : (C_X12_readsRows_7 N xs d r (fun τ => r = (some (.int τ.1), (SH, τ.2)))) τ) : Rn N xs (d + 13) me232 93 [some (.ref 88), none] [(.int y0)] (SH, s) r := by
  unfold F_X12_readsRows_93 at hJ
  refine Rn_sq srt232 47 6 (pc' := (if y0 = 0 then 107 else 103)) (ls' := [some (.ref 88), some (.int y0)]) (st' := [(.int (s.1 88 14)), (.ref 88)]) (h1 := (SH, s)) rfl (Rn_if (fun h17 => ?_) (fun h17 => ?_))
  · replace hJ := m_ifp h17 hJ
    refine Rn_sq srt232 55 1 (pc' := 108) (ls' := [some (.ref 88), some (.int y0)]) (st' := [(.int (ci 0)), (.int (s.1 88 14)), (.ref 88)]) (h1 := (SH, s)) rfl ?_
    exact (k_X12_readsRows_108 d hJ hC)
  · replace hJ := m_ifn h17 hJ
    refine Rn_sq srt232 53 2 (pc' := 108) (ls' := [some (.ref 88), some (.int y0)]) (st' := [(.int (ci 1)), (.int (s.1 88 14)), (.ref 88)]) (h1 := (SH, s)) rfl ?_
    exact (k_X12_readsRows_108 d hJ hC)
def F_X12_readsRows_65 (y0 : Int32) (y1 : Int32) (s : mG) : Option ((Int32 × mG) ⊕ (Int32 × mG)) :=
  if y0 = y1 then
    b2 (F_X12_bad (ci 3) s) fun v11 s10 =>
    if v11 = 0 ∨ v11 = 1 then
      some (Sum.inr (v11, s10))
    else none
  else
    if (s.1 88 11) = (ci 1) then
      b2 (F_X12_aSign s) fun v16 s15 =>
      F_X12_readsRows_93 v16 s15
    else
      b2 (F_X12_aShift s) fun v21 s20 =>
      F_X12_readsRows_93 v21 s20
set_option maxRecDepth 4000 in
theorem k_X12_readsRows_65 {N : Nat} {xs : Nat → Int32} (d : Nat) {r : Option Value × mH} {s : mG} {y0 : Int32} {y1 : Int32} {τ : ((Int32 × mG) ⊕ (Int32 × mG))} (hJ : F_X12_readsRows_65 y0 y1 s = some τ) (hC : (C_X12_readsRows_7 N xs d r (fun τ => r = (some (.int τ.1), (SH, τ.2)))) τ) : Rn N xs (d + 13) me232 65 [some (.ref 88), none] [(.int y1), (.int y0)] (SH, s) r := by
  unfold F_X12_readsRows_65 at hJ
  refine Rn_sq srt232 33 1 (pc' := (if y0 = y1 then 68 else 74)) (ls' := [some (.ref 88), none]) (st' := []) (h1 := (SH, s)) rfl (Rn_if (fun h8 => ?_) (fun h8 => ?_))
  · replace hJ := m_ifp h8 hJ
    refine Rn_sq srt232 34 2 (pc' := 70) (ls' := [some (.ref 88), none]) (st' := [(.int (ci 3)), (.ref 88)]) (h1 := (SH, s)) rfl ?_
    obtain ⟨v11, s10, h9, hJ⟩ := m_b2 hJ
    refine Rn_call srt232 36 rfl rfl rfl ⟨Nat.le_of_ble_eq_true rfl, Nat.le_of_ble_eq_true rfl, rfl, Nat.le_of_ble_eq_true rfl⟩ (k_X12_bad (d + 12) h9) (show Rn N xs (d + 13) me232 73 [some (.ref 88), none] [(.int v11)] (SH, s10) r from ?_)
    obtain ⟨h12, hJ⟩ := m_gp hJ
    rw [← Option.some.inj hJ] at hC
    have hC : r = (some (.int v11), (SH, s10)) := hC
    subst hC
    exact Rn_ret srt232 37 rfl rfl (m_ret_b rfl h12)
  · replace hJ := m_ifn h8 hJ
    refine Rn_sq srt232 38 4 (pc' := (if (s.1 88 11) = (ci 1) then 82 else 89)) (ls' := [some (.ref 88), none]) (st' := []) (h1 := (SH, s)) rfl (Rn_if (fun h13 => ?_) (fun h13 => ?_))
    · replace hJ := m_ifp h13 hJ
      refine Rn_sq srt232 42 1 (pc' := 83) (ls' := [some (.ref 88), none]) (st' := [(.ref 88)]) (h1 := (SH, s)) rfl ?_
      obtain ⟨v16, s15, h14, hJ⟩ := m_b2 hJ
      refine Rn_call srt232 43 rfl rfl rfl ⟨Nat.le_of_ble_eq_true rfl, Nat.le_of_ble_eq_true rfl, rfl, Nat.le_of_ble_eq_true rfl⟩ (k_X12_aSign (d) h14) (show Rn N xs (d + 13) me232 86 [some (.ref 88), none] [(.int v16)] (SH, s15) r from ?_)
      refine Rn_sq srt232 44 1 (pc' := 93) (ls' := [some (.ref 88), none]) (st' := [(.int v16)]) (h1 := (SH, s15)) rfl ?_
      exact (k_X12_readsRows_93 d hJ hC)
    · replace hJ := m_ifn h13 hJ
      refine Rn_sq srt232 45 1 (pc' := 90) (ls' := [some (.ref 88), none]) (st' := [(.ref 88)]) (h1 := (SH, s)) rfl ?_
      obtain ⟨v21, s20, h19, hJ⟩ := m_b2 hJ
      refine Rn_call srt232 46 rfl rfl rfl ⟨Nat.le_of_ble_eq_true rfl, Nat.le_of_ble_eq_true rfl, rfl, Nat.le_of_ble_eq_true rfl⟩ (k_X12_aShift (d) h19) (show Rn N xs (d + 13) me232 93 [some (.ref 88), none] [(.int v21)] (SH, s20) r from ?_)
      exact (k_X12_readsRows_93 d hJ hC)
def F_X12_readsRows_37 (y0 : Int32) (y1 : Int32) (s : mG) : Option ((Int32 × mG) ⊕ (Int32 × mG)) :=
  if y0 = y1 then
    if (s.1 88 11) = (ci 1) then
      F_X12_readsRows_65 (s.1 88 14) (c8 6) s
    else
      F_X12_readsRows_65 (s.1 88 14) (c8 12) s
  else
    b2 (F_X12_bad (ci 1) s) fun v24 s23 =>
    if v24 = 0 ∨ v24 = 1 then
      some (Sum.inr (v24, s23))
    else none
set_option maxRecDepth 4000 in
theorem k_X12_readsRows_37 {N : Nat} {xs : Nat → Int32} (d : Nat) {r : Option Value × mH} {s : mG} {y0 : Int32} {y1 : Int32} {τ : ((Int32 × mG) ⊕ (Int32 × mG))} (hJ : F_X12_readsRows_37 y0 y1 s = some τ) (hC : (C_X12_readsRows_7 N xs d r (fun τ => r = (some (.int τ.1), (SH, τ.2)))) τ) : Rn N xs (d + 13) me232 37 [some (.ref 88), none] [(.int y1), (.int y0)] (SH, s) r := by
  unfold F_X12_readsRows_37 at hJ
  refine Rn_sq srt232 19 1 (pc' := (if y0 = y1 then 46 else 40)) (ls' := [some (.ref 88), none]) (st' := []) (h1 := (SH, s)) rfl (Rn_if (fun h6 => ?_) (fun h6 => ?_))
  · replace hJ := m_ifp h6 hJ
    refine Rn_sq srt232 24 6 (pc' := (if (s.1 88 11) = (ci 1) then 58 else 63)) (ls' := [some (.ref 88), none]) (st' := [(.int (s.1 88 14))]) (h1 := (SH, s)) rfl (Rn_if (fun h7 => ?_) (fun h7 => ?_))
    · replace hJ := m_ifp h7 hJ
      refine Rn_sq srt232 30 2 (pc' := 65) (ls' := [some (.ref 88), none]) (st' := [(.int (c8 6)), (.int (s.1 88 14))]) (h1 := (SH, s)) rfl ?_
      exact (k_X12_readsRows_65 d hJ hC)
    · replace hJ := m_ifn h7 hJ
      refine Rn_sq srt232 32 1 (pc' := 65) (ls' := [some (.ref 88), none]) (st' := [(.int (c8 12)), (.int (s.1 88 14))]) (h1 := (SH, s)) rfl ?_
      exact (k_X12_readsRows_65 d hJ hC)
  · replace hJ := m_ifn h6 hJ
    refine Rn_sq srt232 20 2 (pc' := 42) (ls' := [some (.ref 88), none]) (st' := [(.int (ci 1)), (.ref 88)]) (h1 := (SH, s)) rfl ?_
    obtain ⟨v24, s23, h22, hJ⟩ := m_b2 hJ
    refine Rn_call srt232 22 rfl rfl rfl ⟨Nat.le_of_ble_eq_true rfl, Nat.le_of_ble_eq_true rfl, rfl, Nat.le_of_ble_eq_true rfl⟩ (k_X12_bad (d + 12) h22) (show Rn N xs (d + 13) me232 45 [some (.ref 88), none] [(.int v24)] (SH, s23) r from ?_)
    obtain ⟨h25, hJ⟩ := m_gp hJ
    rw [← Option.some.inj hJ] at hC
    have hC : r = (some (.int v24), (SH, s23)) := hC
    subst hC
    exact Rn_ret srt232 23 rfl rfl (m_ret_b rfl h25)
def F_X12_readsRows_B7 (x1 : Int32) (s : mG) : Option ((Int32 × mG) ⊕ (Int32 × mG)) :=
  if x1 = 0 then
    b1 (F_X12_readsRows_115 x1 s) fun τ => some (Sum.inr τ)
  else
    if (s.1 88 17) = 0 then
      b1 (F_X12_readsRows_115 x1 s) fun τ => some (Sum.inr τ)
    else
      if (s.1 88 11) = (ci 1) then
        F_X12_readsRows_37 (s.1 88 17) (c8 7) s
      else
        F_X12_readsRows_37 (s.1 88 17) (c8 10) s
set_option maxRecDepth 4000 in
theorem k_X12_readsRows_B7 {N : Nat} {xs : Nat → Int32} (d : Nat) {r : Option Value × mH} {s : mG} {x1 : Int32} {τ : ((Int32 × mG) ⊕ (Int32 × mG))} (hJ : F_X12_readsRows_B7 x1 s = some τ) (hC : (C_X12_readsRows_7 N xs d r (fun τ => r = (some (.int τ.1), (SH, τ.2)))) τ) : Rn N xs (d + 13) me232 7 [some (.ref 88), some (.int x1)] [] (SH, s) r := by
  unfold F_X12_readsRows_B7 at hJ
  refine Rn_sq srt232 5 2 (pc' := (if x1 = 0 then 115 else 11)) (ls' := [some (.ref 88), some (.int x1)]) (st' := []) (h1 := (SH, s)) rfl (Rn_if (fun h2 => ?_) (fun h2 => ?_))
  · replace hJ := m_ifp h2 hJ
    obtain ⟨τ1, hJ1, hJ⟩ := m_b1 hJ
    rw [← Option.some.inj hJ] at hC
    exact Rn_weaken (a := [none, some (.int x1)]) (b := [some (.ref 88), some (.int x1)]) (And.intro rfl trivial) rfl (k_X12_readsRows_115 d hJ1 hC)
  · replace hJ := m_ifn h2 hJ
    refine Rn_sq srt232 7 3 (pc' := (if (s.1 88 17) = 0 then 115 else 18)) (ls' := [some (.ref 88), some (.int x1)]) (st' := []) (h1 := (SH, s)) rfl (Rn_if (fun h4 => ?_) (fun h4 => ?_))
    · replace hJ := m_ifp h4 hJ
      obtain ⟨τ1, hJ1, hJ⟩ := m_b1 hJ
      rw [← Option.some.inj hJ] at hC
      exact Rn_weaken (a := [none, some (.int x1)]) (b := [some (.ref 88), some (.int x1)]) (And.intro rfl trivial) rfl (k_X12_readsRows_115 d hJ1 hC)
    · replace hJ := m_ifn h4 hJ
      refine Rn_sq srt232 10 6 (pc' := (if (s.1 88 11) = (ci 1) then 30 else 35)) (ls' := [some (.ref 88), some (.int x1)]) (st' := [(.int (s.1 88 17))]) (h1 := (SH, s)) rfl (Rn_if (fun h5 => ?_) (fun h5 => ?_))
      · replace hJ := m_ifp h5 hJ
        refine Rn_sq srt232 16 2 (pc' := 37) (ls' := [some (.ref 88), some (.int x1)]) (st' := [(.int (c8 7)), (.int (s.1 88 17))]) (h1 := (SH, s)) rfl ?_
        exact Rn_weaken (a := [some (.ref 88), none]) (b := [some (.ref 88), some (.int x1)]) (And.intro rfl trivial) rfl (k_X12_readsRows_37 d hJ hC)
      · replace hJ := m_ifn h5 hJ
        refine Rn_sq srt232 18 1 (pc' := 37) (ls' := [some (.ref 88), some (.int x1)]) (st' := [(.int (c8 10)), (.int (s.1 88 17))]) (h1 := (SH, s)) rfl ?_
        exact Rn_weaken (a := [some (.ref 88), none]) (b := [some (.ref 88), some (.int x1)]) (And.intro rfl trivial) rfl (k_X12_readsRows_37 d hJ hC)
def F_X12_readsRows_L7 (x1 : Int32) (s : mG) : Option (Int32 × mG) := whl (fun (v : (Int32 × mG)) => F_X12_readsRows_B7 v.1 v.2) (x1, s)
theorem k_X12_readsRows_L7 {N : Nat} {xs : Nat → Int32} (d : Nat) {r : Option Value × mH} {s : mG} {x1 : Int32} {τ : (Int32 × mG)} (hJ : F_X12_readsRows_L7 x1 s = some τ) (hC : (fun τ => r = (some (.int τ.1), (SH, τ.2))) τ) : Rn N xs (d + 13) me232 7 [some (.ref 88), some (.int x1)] [] (SH, s) r :=
  whl_link (P := fun (v : (Int32 × mG)) => Rn N xs (d + 13) me232 7 [some (.ref 88), some (.int v.1)] [] (SH, v.2) r) (C := (C_X12_readsRows_7 N xs d r (fun τ => r = (some (.int τ.1), (SH, τ.2))))) (fun v τ h1 h2 => k_X12_readsRows_B7 d h1 h2) (fun _ h => h) (fun _ h => h) _ _ hJ hC
def F_X12_readsRows (s : mG) : Option (Int32 × mG) :=
  let s1 : mG := (mu s.1 88 14 (ci 0), s.2)
  F_X12_readsRows_L7 (ci 1) s1
set_option maxRecDepth 4000 in
theorem k_X12_readsRows_r {N : Nat} {xs : Nat → Int32} (d : Nat) {r : Option Value × mH} {s : mG} {τ : (Int32 × mG)} (hJ : F_X12_readsRows s = some τ) (hC : (fun τ => r = (some (.int τ.1), (SH, τ.2))) τ) : Rn N xs (d + 13) me232 0 [some (.ref 88), none] [] (SH, s) r := by
  unfold F_X12_readsRows at hJ
  extract_lets +onlyGivenNames s1 at hJ
  refine Rn_sq srt232 0 5 (pc' := 7) (ls' := [some (.ref 88), some (.int (ci 1))]) (st' := []) (h1 := (SH, s1)) rfl ?_
  exact (k_X12_readsRows_L7 d hJ hC)
theorem k_X12_readsRows {N : Nat} {xs : Nat → Int32} (d : Nat) {s : mG} {τ : (Int32 × mG)} (hJ : F_X12_readsRows s = some τ) : Rn N xs (d + 13) me232 0 [some (.ref 88), none] [] (SH, s) (some (.int τ.1), (SH, τ.2)) := k_X12_readsRows_r d hJ rfl
/-! IsHeInModel.putsLaw()I -/
theorem srt233 : m_srt mc233 = true := by decide +kernel
def C_X12_putsLaw_13 (N : Nat) (xs : Nat → Int32) (d : Nat) (r : Option Value × mH) (C : (Int32 × mG) → Prop) : ((Int32 × mG) ⊕ (Int32 × mG)) → Prop
  | .inl v => Rn N xs (d + 0) me233 13 [some (.ref 88), some (.int v.1)] [] (SH, v.2) r
  | .inr a => C a
def C_X12_putsLaw_107 (N : Nat) (xs : Nat → Int32) (d : Nat) (r : Option Value × mH) (C : (Int32 × mG) → Prop) : ((Int32 × mG) ⊕ (Int32 × mG)) → Prop
  | .inl v => Rn N xs (d + 0) me233 107 [some (.ref 88), some (.int v.1)] [] (SH, v.2) r
  | .inr a => C a
def F_X12_putsLaw_B107 (x1 : Int32) (s : mG) : Option ((Int32 × mG) ⊕ (Int32 × mG)) :=
  if ((ci 2) * (s.1 88 13)) ≤ x1 then
    some (Sum.inr ((s.1 88 12), s))
  else
    if x1 < 0 ∨ 820 ≤ x1.toNatClampNeg then none else
    if ((c16 1050) + x1) < 0 ∨ 1894 ≤ ((c16 1050) + x1).toNatClampNeg then none else
    let s6 : mG := (mu s.1 89 ((c16 1050) + x1).toNatClampNeg (s.1 93 x1.toNatClampNeg), s.2)
    some (Sum.inl ((x1 + ci 1), s6))
set_option maxRecDepth 4000 in
theorem k_X12_putsLaw_B107 {N : Nat} {xs : Nat → Int32} (d : Nat) {r : Option Value × mH} {s : mG} {x1 : Int32} {τ : ((Int32 × mG) ⊕ (Int32 × mG))} (hJ : F_X12_putsLaw_B107 x1 s = some τ) (hC : (C_X12_putsLaw_107 N xs d r (fun τ => r = (some (.int τ.1), (SH, τ.2)))) τ) : Rn N xs (d + 0) me233 107 [some (.ref 88), some (.int x1)] [] (SH, s) r := by
  unfold F_X12_putsLaw_B107 at hJ
  refine Rn_sq srt233 70 6 (pc' := (if ((ci 2) * (s.1 88 13)) ≤ x1 then 139 else 117)) (ls' := [some (.ref 88), some (.int x1)]) (st' := []) (h1 := (SH, s)) rfl (Rn_if (fun h3 => ?_) (fun h3 => ?_))
  · replace hJ := m_ifp h3 hJ
    refine Rn_sq srt233 88 2 (pc' := 143) (ls' := [some (.ref 88), some (.int x1)]) (st' := [(.int (s.1 88 12))]) (h1 := (SH, s)) rfl ?_
    rw [← Option.some.inj hJ] at hC
    have hC : r = (some (.int (s.1 88 12)), (SH, s)) := hC
    subst hC
    exact Rn_ret srt233 90 rfl rfl rfl
  · replace hJ := m_ifn h3 hJ
    refine Rn_sq srt233 76 8 (pc' := 131) (ls' := [some (.ref 88), some (.int x1)]) (st' := [(.int x1), (.ref 93), (.int ((c16 1050) + x1)), (.ref 89)]) (h1 := (SH, s)) rfl ?_
    obtain ⟨h4, hJ⟩ := m_gn hJ
    refine Rn_ev srt233 84 rfl rfl rfl (op_ia sh93 h4 (k := x1.toNatClampNeg) rfl) ?_
    obtain ⟨h5, hJ⟩ := m_gn hJ
    extract_lets +onlyGivenNames s6 at hJ
    refine Rn_ev srt233 85 rfl rfl rfl (op_ias sh89 h5 (k := ((c16 1050) + x1).toNatClampNeg) rfl) ?_
    refine Rn_sq srt233 86 2 (pc' := 107) (ls' := [some (.ref 88), some (.int (x1 + ci 1))]) (st' := []) (h1 := (SH, s6)) rfl ?_
    rw [← Option.some.inj hJ] at hC
    exact hC
def F_X12_putsLaw_L107 (x1 : Int32) (s : mG) : Option (Int32 × mG) := whl (fun (v : (Int32 × mG)) => F_X12_putsLaw_B107 v.1 v.2) (x1, s)
theorem k_X12_putsLaw_L107 {N : Nat} {xs : Nat → Int32} (d : Nat) {r : Option Value × mH} {s : mG} {x1 : Int32} {τ : (Int32 × mG)} (hJ : F_X12_putsLaw_L107 x1 s = some τ) (hC : (fun τ => r = (some (.int τ.1), (SH, τ.2))) τ) : Rn N xs (d + 0) me233 107 [some (.ref 88), some (.int x1)] [] (SH, s) r :=
  whl_link (P := fun (v : (Int32 × mG)) => Rn N xs (d + 0) me233 107 [some (.ref 88), some (.int v.1)] [] (SH, v.2) r) (C := (C_X12_putsLaw_107 N xs d r (fun τ => r = (some (.int τ.1), (SH, τ.2))))) (fun v τ h1 h2 => k_X12_putsLaw_B107 d h1 h2) (fun _ h => h) (fun _ h => h) _ _ hJ hC
def F_X12_putsLaw_B13 (x1 : Int32) (s : mG) : Option ((Int32 × mG) ⊕ (Int32 × mG)) :=
  if (s.1 88 12) ≤ x1 then
    b1 (F_X12_putsLaw_L107 (ci 0) s) fun τ => some (Sum.inr τ)
  else
    if ((ci 4) * x1) < 0 ∨ 64 ≤ ((ci 4) * x1).toNatClampNeg then none else
    if ((c16 985) + x1) < 0 ∨ 1894 ≤ ((c16 985) + x1).toNatClampNeg then none else
    let s9 : mG := (mu s.1 89 ((c16 985) + x1).toNatClampNeg (s.1 92 ((ci 4) * x1).toNatClampNeg), s.2)
    if (((ci 4) * x1) + (ci 1)) < 0 ∨ 64 ≤ (((ci 4) * x1) + (ci 1)).toNatClampNeg then none else
    if ((c16 1001) + x1) < 0 ∨ 1894 ≤ ((c16 1001) + x1).toNatClampNeg then none else
    let s12 : mG := (mu s9.1 89 ((c16 1001) + x1).toNatClampNeg (s9.1 92 (((ci 4) * x1) + (ci 1)).toNatClampNeg), s9.2)
    if (((ci 4) * x1) + (ci 2)) < 0 ∨ 64 ≤ (((ci 4) * x1) + (ci 2)).toNatClampNeg then none else
    if ((c16 1017) + x1) < 0 ∨ 1894 ≤ ((c16 1017) + x1).toNatClampNeg then none else
    let s15 : mG := (mu s12.1 89 ((c16 1017) + x1).toNatClampNeg (s12.1 92 (((ci 4) * x1) + (ci 2)).toNatClampNeg), s12.2)
    if (((ci 4) * x1) + (ci 3)) < 0 ∨ 64 ≤ (((ci 4) * x1) + (ci 3)).toNatClampNeg then none else
    if ((c16 1033) + x1) < 0 ∨ 1894 ≤ ((c16 1033) + x1).toNatClampNeg then none else
    let s18 : mG := (mu s15.1 89 ((c16 1033) + x1).toNatClampNeg (s15.1 92 (((ci 4) * x1) + (ci 3)).toNatClampNeg), s15.2)
    some (Sum.inl ((x1 + ci 1), s18))
set_option maxRecDepth 4000 in
theorem k_X12_putsLaw_B13 {N : Nat} {xs : Nat → Int32} (d : Nat) {r : Option Value × mH} {s : mG} {x1 : Int32} {τ : ((Int32 × mG) ⊕ (Int32 × mG))} (hJ : F_X12_putsLaw_B13 x1 s = some τ) (hC : (C_X12_putsLaw_13 N xs d r (fun τ => r = (some (.int τ.1), (SH, τ.2)))) τ) : Rn N xs (d + 0) me233 13 [some (.ref 88), some (.int x1)] [] (SH, s) r := by
  unfold F_X12_putsLaw_B13 at hJ
  refine Rn_sq srt233 8 4 (pc' := (if (s.1 88 12) ≤ x1 then 105 else 21)) (ls' := [some (.ref 88), some (.int x1)]) (st' := []) (h1 := (SH, s)) rfl (Rn_if (fun h2 => ?_) (fun h2 => ?_))
  · replace hJ := m_ifp h2 hJ
    refine Rn_sq srt233 68 2 (pc' := 107) (ls' := [some (.ref 88), some (.int (ci 0))]) (st' := []) (h1 := (SH, s)) rfl ?_
    obtain ⟨τ1, hJ1, hJ⟩ := m_b1 hJ
    rw [← Option.some.inj hJ] at hC
    exact (k_X12_putsLaw_L107 d hJ1 hC)
  · replace hJ := m_ifn h2 hJ
    refine Rn_sq srt233 12 10 (pc' := 37) (ls' := [some (.ref 88), some (.int x1)]) (st' := [(.int ((ci 4) * x1)), (.ref 92), (.int ((c16 985) + x1)), (.ref 89)]) (h1 := (SH, s)) rfl ?_
    obtain ⟨h7, hJ⟩ := m_gn hJ
    refine Rn_ev srt233 22 rfl rfl rfl (op_ia sh92 h7 (k := ((ci 4) * x1).toNatClampNeg) rfl) ?_
    obtain ⟨h8, hJ⟩ := m_gn hJ
    extract_lets +onlyGivenNames s9 at hJ
    refine Rn_ev srt233 23 rfl rfl rfl (op_ias sh89 h8 (k := ((c16 985) + x1).toNatClampNeg) rfl) ?_
    refine Rn_sq srt233 24 12 (pc' := 57) (ls' := [some (.ref 88), some (.int x1)]) (st' := [(.int (((ci 4) * x1) + (ci 1))), (.ref 92), (.int ((c16 1001) + x1)), (.ref 89)]) (h1 := (SH, s9)) rfl ?_
    obtain ⟨h10, hJ⟩ := m_gn hJ
    refine Rn_ev srt233 36 rfl rfl rfl (op_ia sh92 h10 (k := (((ci 4) * x1) + (ci 1)).toNatClampNeg) rfl) ?_
    obtain ⟨h11, hJ⟩ := m_gn hJ
    extract_lets +onlyGivenNames s12 at hJ
    refine Rn_ev srt233 37 rfl rfl rfl (op_ias sh89 h11 (k := ((c16 1001) + x1).toNatClampNeg) rfl) ?_
    refine Rn_sq srt233 38 12 (pc' := 77) (ls' := [some (.ref 88), some (.int x1)]) (st' := [(.int (((ci 4) * x1) + (ci 2))), (.ref 92), (.int ((c16 1017) + x1)), (.ref 89)]) (h1 := (SH, s12)) rfl ?_
    obtain ⟨h13, hJ⟩ := m_gn hJ
    refine Rn_ev srt233 50 rfl rfl rfl (op_ia sh92 h13 (k := (((ci 4) * x1) + (ci 2)).toNatClampNeg) rfl) ?_
    obtain ⟨h14, hJ⟩ := m_gn hJ
    extract_lets +onlyGivenNames s15 at hJ
    refine Rn_ev srt233 51 rfl rfl rfl (op_ias sh89 h14 (k := ((c16 1017) + x1).toNatClampNeg) rfl) ?_
    refine Rn_sq srt233 52 12 (pc' := 97) (ls' := [some (.ref 88), some (.int x1)]) (st' := [(.int (((ci 4) * x1) + (ci 3))), (.ref 92), (.int ((c16 1033) + x1)), (.ref 89)]) (h1 := (SH, s15)) rfl ?_
    obtain ⟨h16, hJ⟩ := m_gn hJ
    refine Rn_ev srt233 64 rfl rfl rfl (op_ia sh92 h16 (k := (((ci 4) * x1) + (ci 3)).toNatClampNeg) rfl) ?_
    obtain ⟨h17, hJ⟩ := m_gn hJ
    extract_lets +onlyGivenNames s18 at hJ
    refine Rn_ev srt233 65 rfl rfl rfl (op_ias sh89 h17 (k := ((c16 1033) + x1).toNatClampNeg) rfl) ?_
    refine Rn_sq srt233 66 2 (pc' := 13) (ls' := [some (.ref 88), some (.int (x1 + ci 1))]) (st' := []) (h1 := (SH, s18)) rfl ?_
    rw [← Option.some.inj hJ] at hC
    exact hC
def F_X12_putsLaw_L13 (x1 : Int32) (s : mG) : Option (Int32 × mG) := whl (fun (v : (Int32 × mG)) => F_X12_putsLaw_B13 v.1 v.2) (x1, s)
theorem k_X12_putsLaw_L13 {N : Nat} {xs : Nat → Int32} (d : Nat) {r : Option Value × mH} {s : mG} {x1 : Int32} {τ : (Int32 × mG)} (hJ : F_X12_putsLaw_L13 x1 s = some τ) (hC : (fun τ => r = (some (.int τ.1), (SH, τ.2))) τ) : Rn N xs (d + 0) me233 13 [some (.ref 88), some (.int x1)] [] (SH, s) r :=
  whl_link (P := fun (v : (Int32 × mG)) => Rn N xs (d + 0) me233 13 [some (.ref 88), some (.int v.1)] [] (SH, v.2) r) (C := (C_X12_putsLaw_13 N xs d r (fun τ => r = (some (.int τ.1), (SH, τ.2))))) (fun v τ h1 h2 => k_X12_putsLaw_B13 d h1 h2) (fun _ h => h) (fun _ h => h) _ _ hJ hC
def F_X12_putsLaw (s : mG) : Option (Int32 × mG) :=
  let s1 : mG := (mu s.1 89 117 (s.1 88 12), s.2)
  F_X12_putsLaw_L13 (ci 0) s1
set_option maxRecDepth 4000 in
theorem k_X12_putsLaw_r {N : Nat} {xs : Nat → Int32} (d : Nat) {r : Option Value × mH} {s : mG} {τ : (Int32 × mG)} (hJ : F_X12_putsLaw s = some τ) (hC : (fun τ => r = (some (.int τ.1), (SH, τ.2))) τ) : Rn N xs (d + 0) me233 0 [some (.ref 88), none] [] (SH, s) r := by
  unfold F_X12_putsLaw at hJ
  refine Rn_sq srt233 0 5 (pc' := 10) (ls' := [some (.ref 88), none]) (st' := [(.int (s.1 88 12)), (.int (c8 117)), (.ref 89)]) (h1 := (SH, s)) rfl ?_
  extract_lets +onlyGivenNames s1 at hJ
  refine Rn_ev srt233 5 rfl rfl rfl (op_ias sh89 (by decide) (k := 117) rfl) ?_
  refine Rn_sq srt233 6 2 (pc' := 13) (ls' := [some (.ref 88), some (.int (ci 0))]) (st' := []) (h1 := (SH, s1)) rfl ?_
  exact (k_X12_putsLaw_L13 d hJ hC)
theorem k_X12_putsLaw {N : Nat} {xs : Nat → Int32} (d : Nat) {s : mG} {τ : (Int32 × mG)} (hJ : F_X12_putsLaw s = some τ) : Rn N xs (d + 0) me233 0 [some (.ref 88), none] [] (SH, s) (some (.int τ.1), (SH, τ.2)) := k_X12_putsLaw_r d hJ rfl
/-! IsHeInModel.putsSigns()I -/
theorem srt234 : m_srt mc234 = true := by decide +kernel
def C_X12_putsSigns_13 (N : Nat) (xs : Nat → Int32) (d : Nat) (r : Option Value × mH) (C : (Int32 × mG) → Prop) : ((Int32 × mG) ⊕ (Int32 × mG)) → Prop
  | .inl v => Rn N xs (d + 1) me234 13 [some (.ref 88), some (.int v.1)] [] (SH, v.2) r
  | .inr a => C a
def C_X12_putsSigns_47 (N : Nat) (xs : Nat → Int32) (d : Nat) (r : Option Value × mH) (C : (Int32 × mG) → Prop) : ((Int32 × mG) ⊕ (Int32 × mG)) → Prop
  | .inl v => Rn N xs (d + 1) me234 47 [some (.ref 88), some (.int v.1)] [] (SH, v.2) r
  | .inr a => C a
def F_X12_putsSigns_B47 (x1 : Int32) (s : mG) : Option ((Int32 × mG) ⊕ (Int32 × mG)) :=
  if (c8 72) ≤ x1 then
    b1 (F_X12_forgets s) fun s5 =>
    some (Sum.inr ((s5.1 88 14), s5))
  else
    if ((c8 39) + x1) < 0 ∨ 1894 ≤ ((c8 39) + x1).toNatClampNeg then none else
    let s7 : mG := (mu s.1 89 ((c8 39) + x1).toNatClampNeg (ci (-1)), s.2)
    some (Sum.inl ((x1 + ci 1), s7))
set_option maxRecDepth 4000 in
theorem k_X12_putsSigns_B47 {N : Nat} {xs : Nat → Int32} (d : Nat) {r : Option Value × mH} {s : mG} {x1 : Int32} {τ : ((Int32 × mG) ⊕ (Int32 × mG))} (hJ : F_X12_putsSigns_B47 x1 s = some τ) (hC : (C_X12_putsSigns_47 N xs d r (fun τ => r = (some (.int τ.1), (SH, τ.2)))) τ) : Rn N xs (d + 1) me234 47 [some (.ref 88), some (.int x1)] [] (SH, s) r := by
  unfold F_X12_putsSigns_B47 at hJ
  refine Rn_sq srt234 28 3 (pc' := (if (c8 72) ≤ x1 then 69 else 53)) (ls' := [some (.ref 88), some (.int x1)]) (st' := []) (h1 := (SH, s)) rfl (Rn_if (fun h3 => ?_) (fun h3 => ?_))
  · replace hJ := m_ifp h3 hJ
    refine Rn_sq srt234 40 1 (pc' := 70) (ls' := [some (.ref 88), some (.int x1)]) (st' := [(.ref 88)]) (h1 := (SH, s)) rfl ?_
    obtain ⟨s5, h4, hJ⟩ := m_b1 hJ
    refine Rn_call srt234 41 rfl rfl rfl ⟨Nat.le_of_ble_eq_true rfl, Nat.le_of_ble_eq_true rfl, rfl, Nat.le_of_ble_eq_true rfl⟩ (k_X12_forgets (d) h4) (show Rn N xs (d + 1) me234 73 [some (.ref 88), some (.int x1)] [] (SH, s5) r from ?_)
    refine Rn_sq srt234 42 2 (pc' := 77) (ls' := [some (.ref 88), some (.int x1)]) (st' := [(.int (s5.1 88 14))]) (h1 := (SH, s5)) rfl ?_
    rw [← Option.some.inj hJ] at hC
    have hC : r = (some (.int (s5.1 88 14)), (SH, s5)) := hC
    subst hC
    exact Rn_ret srt234 44 rfl rfl rfl
  · replace hJ := m_ifn h3 hJ
    refine Rn_sq srt234 31 6 (pc' := 62) (ls' := [some (.ref 88), some (.int x1)]) (st' := [(.int (ci (-1))), (.int ((c8 39) + x1)), (.ref 89)]) (h1 := (SH, s)) rfl ?_
    obtain ⟨h6, hJ⟩ := m_gn hJ
    extract_lets +onlyGivenNames s7 at hJ
    refine Rn_ev srt234 37 rfl rfl rfl (op_ias sh89 h6 (k := ((c8 39) + x1).toNatClampNeg) rfl) ?_
    refine Rn_sq srt234 38 2 (pc' := 47) (ls' := [some (.ref 88), some (.int (x1 + ci 1))]) (st' := []) (h1 := (SH, s7)) rfl ?_
    rw [← Option.some.inj hJ] at hC
    exact hC
def F_X12_putsSigns_L47 (x1 : Int32) (s : mG) : Option (Int32 × mG) := whl (fun (v : (Int32 × mG)) => F_X12_putsSigns_B47 v.1 v.2) (x1, s)
theorem k_X12_putsSigns_L47 {N : Nat} {xs : Nat → Int32} (d : Nat) {r : Option Value × mH} {s : mG} {x1 : Int32} {τ : (Int32 × mG)} (hJ : F_X12_putsSigns_L47 x1 s = some τ) (hC : (fun τ => r = (some (.int τ.1), (SH, τ.2))) τ) : Rn N xs (d + 1) me234 47 [some (.ref 88), some (.int x1)] [] (SH, s) r :=
  whl_link (P := fun (v : (Int32 × mG)) => Rn N xs (d + 1) me234 47 [some (.ref 88), some (.int v.1)] [] (SH, v.2) r) (C := (C_X12_putsSigns_47 N xs d r (fun τ => r = (some (.int τ.1), (SH, τ.2))))) (fun v τ h1 h2 => k_X12_putsSigns_B47 d h1 h2) (fun _ h => h) (fun _ h => h) _ _ hJ hC
def F_X12_putsSigns_B13 (x1 : Int32) (s : mG) : Option ((Int32 × mG) ⊕ (Int32 × mG)) :=
  if ((ci 2) * (s.1 88 14)) ≤ x1 then
    b1 (F_X12_putsSigns_L47 (ci 0) s) fun τ => some (Sum.inr τ)
  else
    if x1 < 0 ∨ 48 ≤ x1.toNatClampNeg then none else
    if ((c16 143) + x1) < 0 ∨ 1894 ≤ ((c16 143) + x1).toNatClampNeg then none else
    let s10 : mG := (mu s.1 89 ((c16 143) + x1).toNatClampNeg (s.1 94 x1.toNatClampNeg), s.2)
    some (Sum.inl ((x1 + ci 1), s10))
set_option maxRecDepth 4000 in
theorem k_X12_putsSigns_B13 {N : Nat} {xs : Nat → Int32} (d : Nat) {r : Option Value × mH} {s : mG} {x1 : Int32} {τ : ((Int32 × mG) ⊕ (Int32 × mG))} (hJ : F_X12_putsSigns_B13 x1 s = some τ) (hC : (C_X12_putsSigns_13 N xs d r (fun τ => r = (some (.int τ.1), (SH, τ.2)))) τ) : Rn N xs (d + 1) me234 13 [some (.ref 88), some (.int x1)] [] (SH, s) r := by
  unfold F_X12_putsSigns_B13 at hJ
  refine Rn_sq srt234 8 6 (pc' := (if ((ci 2) * (s.1 88 14)) ≤ x1 then 45 else 23)) (ls' := [some (.ref 88), some (.int x1)]) (st' := []) (h1 := (SH, s)) rfl (Rn_if (fun h2 => ?_) (fun h2 => ?_))
  · replace hJ := m_ifp h2 hJ
    refine Rn_sq srt234 26 2 (pc' := 47) (ls' := [some (.ref 88), some (.int (ci 0))]) (st' := []) (h1 := (SH, s)) rfl ?_
    obtain ⟨τ1, hJ1, hJ⟩ := m_b1 hJ
    rw [← Option.some.inj hJ] at hC
    exact (k_X12_putsSigns_L47 d hJ1 hC)
  · replace hJ := m_ifn h2 hJ
    refine Rn_sq srt234 14 8 (pc' := 37) (ls' := [some (.ref 88), some (.int x1)]) (st' := [(.int x1), (.ref 94), (.int ((c16 143) + x1)), (.ref 89)]) (h1 := (SH, s)) rfl ?_
    obtain ⟨h8, hJ⟩ := m_gn hJ
    refine Rn_ev srt234 22 rfl rfl rfl (op_ia sh94 h8 (k := x1.toNatClampNeg) rfl) ?_
    obtain ⟨h9, hJ⟩ := m_gn hJ
    extract_lets +onlyGivenNames s10 at hJ
    refine Rn_ev srt234 23 rfl rfl rfl (op_ias sh89 h9 (k := ((c16 143) + x1).toNatClampNeg) rfl) ?_
    refine Rn_sq srt234 24 2 (pc' := 13) (ls' := [some (.ref 88), some (.int (x1 + ci 1))]) (st' := []) (h1 := (SH, s10)) rfl ?_
    rw [← Option.some.inj hJ] at hC
    exact hC
def F_X12_putsSigns_L13 (x1 : Int32) (s : mG) : Option (Int32 × mG) := whl (fun (v : (Int32 × mG)) => F_X12_putsSigns_B13 v.1 v.2) (x1, s)
theorem k_X12_putsSigns_L13 {N : Nat} {xs : Nat → Int32} (d : Nat) {r : Option Value × mH} {s : mG} {x1 : Int32} {τ : (Int32 × mG)} (hJ : F_X12_putsSigns_L13 x1 s = some τ) (hC : (fun τ => r = (some (.int τ.1), (SH, τ.2))) τ) : Rn N xs (d + 1) me234 13 [some (.ref 88), some (.int x1)] [] (SH, s) r :=
  whl_link (P := fun (v : (Int32 × mG)) => Rn N xs (d + 1) me234 13 [some (.ref 88), some (.int v.1)] [] (SH, v.2) r) (C := (C_X12_putsSigns_13 N xs d r (fun τ => r = (some (.int τ.1), (SH, τ.2))))) (fun v τ h1 h2 => k_X12_putsSigns_B13 d h1 h2) (fun _ h => h) (fun _ h => h) _ _ hJ hC
def F_X12_putsSigns (s : mG) : Option (Int32 × mG) :=
  let s1 : mG := (mu s.1 89 115 (s.1 88 14), s.2)
  F_X12_putsSigns_L13 (ci 0) s1
set_option maxRecDepth 4000 in
theorem k_X12_putsSigns_r {N : Nat} {xs : Nat → Int32} (d : Nat) {r : Option Value × mH} {s : mG} {τ : (Int32 × mG)} (hJ : F_X12_putsSigns s = some τ) (hC : (fun τ => r = (some (.int τ.1), (SH, τ.2))) τ) : Rn N xs (d + 1) me234 0 [some (.ref 88), none] [] (SH, s) r := by
  unfold F_X12_putsSigns at hJ
  refine Rn_sq srt234 0 5 (pc' := 10) (ls' := [some (.ref 88), none]) (st' := [(.int (s.1 88 14)), (.int (c8 115)), (.ref 89)]) (h1 := (SH, s)) rfl ?_
  extract_lets +onlyGivenNames s1 at hJ
  refine Rn_ev srt234 5 rfl rfl rfl (op_ias sh89 (by decide) (k := 115) rfl) ?_
  refine Rn_sq srt234 6 2 (pc' := 13) (ls' := [some (.ref 88), some (.int (ci 0))]) (st' := []) (h1 := (SH, s1)) rfl ?_
  exact (k_X12_putsSigns_L13 d hJ hC)
theorem k_X12_putsSigns {N : Nat} {xs : Nat → Int32} (d : Nat) {s : mG} {τ : (Int32 × mG)} (hJ : F_X12_putsSigns s = some τ) : Rn N xs (d + 1) me234 0 [some (.ref 88), none] [] (SH, s) (some (.int τ.1), (SH, τ.2)) := k_X12_putsSigns_r d hJ rfl
/-! IsHeInModel.putsShifts()I -/
theorem srt235 : m_srt mc235 = true := by decide +kernel
def C_X12_putsShifts_13 (N : Nat) (xs : Nat → Int32) (d : Nat) (r : Option Value × mH) (C : (Int32 × mG) → Prop) : ((Int32 × mG) ⊕ (Int32 × mG)) → Prop
  | .inl v => Rn N xs (d + 1) me235 13 [some (.ref 88), some (.int v.1)] [] (SH, v.2) r
  | .inr a => C a
def F_X12_putsShifts_B13 (x1 : Int32) (s : mG) : Option ((Int32 × mG) ⊕ (Int32 × mG)) :=
  if ((ci 4) * (s.1 88 14)) ≤ x1 then
    b1 (F_X12_forgets s) fun s4 =>
    some (Sum.inr ((s4.1 88 14), s4))
  else
    if x1 < 0 ∨ 48 ≤ x1.toNatClampNeg then none else
    if ((c16 155) + x1) < 0 ∨ 1894 ≤ ((c16 155) + x1).toNatClampNeg then none else
    let s7 : mG := (mu s.1 89 ((c16 155) + x1).toNatClampNeg (s.1 94 x1.toNatClampNeg), s.2)
    some (Sum.inl ((x1 + ci 1), s7))
set_option maxRecDepth 4000 in
theorem k_X12_putsShifts_B13 {N : Nat} {xs : Nat → Int32} (d : Nat) {r : Option Value × mH} {s : mG} {x1 : Int32} {τ : ((Int32 × mG) ⊕ (Int32 × mG))} (hJ : F_X12_putsShifts_B13 x1 s = some τ) (hC : (C_X12_putsShifts_13 N xs d r (fun τ => r = (some (.int τ.1), (SH, τ.2)))) τ) : Rn N xs (d + 1) me235 13 [some (.ref 88), some (.int x1)] [] (SH, s) r := by
  unfold F_X12_putsShifts_B13 at hJ
  refine Rn_sq srt235 8 6 (pc' := (if ((ci 4) * (s.1 88 14)) ≤ x1 then 45 else 23)) (ls' := [some (.ref 88), some (.int x1)]) (st' := []) (h1 := (SH, s)) rfl (Rn_if (fun h2 => ?_) (fun h2 => ?_))
  · replace hJ := m_ifp h2 hJ
    refine Rn_sq srt235 26 1 (pc' := 46) (ls' := [some (.ref 88), some (.int x1)]) (st' := [(.ref 88)]) (h1 := (SH, s)) rfl ?_
    obtain ⟨s4, h3, hJ⟩ := m_b1 hJ
    refine Rn_call srt235 27 rfl rfl rfl ⟨Nat.le_of_ble_eq_true rfl, Nat.le_of_ble_eq_true rfl, rfl, Nat.le_of_ble_eq_true rfl⟩ (k_X12_forgets (d) h3) (show Rn N xs (d + 1) me235 49 [some (.ref 88), some (.int x1)] [] (SH, s4) r from ?_)
    refine Rn_sq srt235 28 2 (pc' := 53) (ls' := [some (.ref 88), some (.int x1)]) (st' := [(.int (s4.1 88 14))]) (h1 := (SH, s4)) rfl ?_
    rw [← Option.some.inj hJ] at hC
    have hC : r = (some (.int (s4.1 88 14)), (SH, s4)) := hC
    subst hC
    exact Rn_ret srt235 30 rfl rfl rfl
  · replace hJ := m_ifn h2 hJ
    refine Rn_sq srt235 14 8 (pc' := 37) (ls' := [some (.ref 88), some (.int x1)]) (st' := [(.int x1), (.ref 94), (.int ((c16 155) + x1)), (.ref 89)]) (h1 := (SH, s)) rfl ?_
    obtain ⟨h5, hJ⟩ := m_gn hJ
    refine Rn_ev srt235 22 rfl rfl rfl (op_ia sh94 h5 (k := x1.toNatClampNeg) rfl) ?_
    obtain ⟨h6, hJ⟩ := m_gn hJ
    extract_lets +onlyGivenNames s7 at hJ
    refine Rn_ev srt235 23 rfl rfl rfl (op_ias sh89 h6 (k := ((c16 155) + x1).toNatClampNeg) rfl) ?_
    refine Rn_sq srt235 24 2 (pc' := 13) (ls' := [some (.ref 88), some (.int (x1 + ci 1))]) (st' := []) (h1 := (SH, s7)) rfl ?_
    rw [← Option.some.inj hJ] at hC
    exact hC
def F_X12_putsShifts_L13 (x1 : Int32) (s : mG) : Option (Int32 × mG) := whl (fun (v : (Int32 × mG)) => F_X12_putsShifts_B13 v.1 v.2) (x1, s)
theorem k_X12_putsShifts_L13 {N : Nat} {xs : Nat → Int32} (d : Nat) {r : Option Value × mH} {s : mG} {x1 : Int32} {τ : (Int32 × mG)} (hJ : F_X12_putsShifts_L13 x1 s = some τ) (hC : (fun τ => r = (some (.int τ.1), (SH, τ.2))) τ) : Rn N xs (d + 1) me235 13 [some (.ref 88), some (.int x1)] [] (SH, s) r :=
  whl_link (P := fun (v : (Int32 × mG)) => Rn N xs (d + 1) me235 13 [some (.ref 88), some (.int v.1)] [] (SH, v.2) r) (C := (C_X12_putsShifts_13 N xs d r (fun τ => r = (some (.int τ.1), (SH, τ.2))))) (fun v τ h1 h2 => k_X12_putsShifts_B13 d h1 h2) (fun _ h => h) (fun _ h => h) _ _ hJ hC
def F_X12_putsShifts (s : mG) : Option (Int32 × mG) :=
  let s1 : mG := (mu s.1 89 116 (s.1 88 14), s.2)
  F_X12_putsShifts_L13 (ci 0) s1
set_option maxRecDepth 4000 in
theorem k_X12_putsShifts_r {N : Nat} {xs : Nat → Int32} (d : Nat) {r : Option Value × mH} {s : mG} {τ : (Int32 × mG)} (hJ : F_X12_putsShifts s = some τ) (hC : (fun τ => r = (some (.int τ.1), (SH, τ.2))) τ) : Rn N xs (d + 1) me235 0 [some (.ref 88), none] [] (SH, s) r := by
  unfold F_X12_putsShifts at hJ
  refine Rn_sq srt235 0 5 (pc' := 10) (ls' := [some (.ref 88), none]) (st' := [(.int (s.1 88 14)), (.int (c8 116)), (.ref 89)]) (h1 := (SH, s)) rfl ?_
  extract_lets +onlyGivenNames s1 at hJ
  refine Rn_ev srt235 5 rfl rfl rfl (op_ias sh89 (by decide) (k := 116) rfl) ?_
  refine Rn_sq srt235 6 2 (pc' := 13) (ls' := [some (.ref 88), some (.int (ci 0))]) (st' := []) (h1 := (SH, s1)) rfl ?_
  exact (k_X12_putsShifts_L13 d hJ hC)
theorem k_X12_putsShifts {N : Nat} {xs : Nat → Int32} (d : Nat) {s : mG} {τ : (Int32 × mG)} (hJ : F_X12_putsShifts s = some τ) : Rn N xs (d + 1) me235 0 [some (.ref 88), none] [] (SH, s) (some (.int τ.1), (SH, τ.2)) := k_X12_putsShifts_r d hJ rfl
/-! IsHeInModel.text(I)I -/
theorem srt236 : m_srt mc236 = true := by decide +kernel
def F_X12_text_60 (x1 : Int32) (y0 : Int32) (s : mG) : Option (Int32 × mG) :=
  let s16 : mG := (mu s.1 88 15 (ci 0), s.2)
  if y0 = 0 then
    let s18 : mG := (mu s16.1 88 22 (s16.1 88 20), s16.2)
    let s19 : mG := (mu s18.1 88 24 (s18.1 88 21), s18.2)
    some ((ci (-1)), s19)
  else
    if x1 = 0 then
      b2 (F_X12_putsLaw s16) fun v23 s22 =>
      some (v23, s22)
    else
      if x1 = (ci 1) then
        b2 (F_X12_putsSigns s16) fun v27 s26 =>
        some (v27, s26)
      else
        b2 (F_X12_putsShifts s16) fun v30 s29 =>
        some (v30, s29)
set_option maxRecDepth 4000 in
theorem k_X12_text_60 {N : Nat} {xs : Nat → Int32} (d : Nat) {r : Option Value × mH} {s : mG} {x1 : Int32} {y0 : Int32} {τ : (Int32 × mG)} (hJ : F_X12_text_60 x1 y0 s = some τ) (hC : (fun τ => r = (some (.int τ.1), (SH, τ.2))) τ) : Rn N xs (d + 131) me236 60 [some (.ref 88), some (.int x1), none] [(.int y0)] (SH, s) r := by
  unfold F_X12_text_60 at hJ
  extract_lets +onlyGivenNames s16 at hJ
  refine Rn_sq srt236 34 6 (pc' := (if y0 = 0 then 98 else 70)) (ls' := [some (.ref 88), some (.int x1), some (.int y0)]) (st' := []) (h1 := (SH, s16)) rfl (Rn_if (fun h17 => ?_) (fun h17 => ?_))
  · replace hJ := m_ifp h17 hJ
    extract_lets +onlyGivenNames s18 at hJ
    extract_lets +onlyGivenNames s19 at hJ
    refine Rn_sq srt236 54 9 (pc' := 115) (ls' := [some (.ref 88), some (.int x1), some (.int y0)]) (st' := [(.int (ci (-1)))]) (h1 := (SH, s19)) rfl ?_
    rw [← Option.some.inj hJ] at hC
    have hC : r = (some (.int (ci (-1))), (SH, s19)) := hC
    subst hC
    exact Rn_ret srt236 63 rfl rfl rfl
  · replace hJ := m_ifn h17 hJ
    refine Rn_sq srt236 40 2 (pc' := (if x1 = 0 then 74 else 81)) (ls' := [some (.ref 88), some (.int x1), some (.int y0)]) (st' := []) (h1 := (SH, s16)) rfl (Rn_if (fun h20 => ?_) (fun h20 => ?_))
    · replace hJ := m_ifp h20 hJ
      refine Rn_sq srt236 42 1 (pc' := 75) (ls' := [some (.ref 88), some (.int x1), some (.int y0)]) (st' := [(.ref 88)]) (h1 := (SH, s16)) rfl ?_
      obtain ⟨v23, s22, h21, hJ⟩ := m_b2 hJ
      refine Rn_call srt236 43 rfl rfl rfl ⟨Nat.le_of_ble_eq_true rfl, Nat.le_of_ble_eq_true rfl, rfl, Nat.le_of_ble_eq_true rfl⟩ (k_X12_putsLaw (d + 130) h21) (show Rn N xs (d + 131) me236 78 [some (.ref 88), some (.int x1), some (.int y0)] [(.int v23)] (SH, s22) r from ?_)
      refine Rn_sq srt236 44 1 (pc' := 97) (ls' := [some (.ref 88), some (.int x1), some (.int y0)]) (st' := [(.int v23)]) (h1 := (SH, s22)) rfl ?_
      rw [← Option.some.inj hJ] at hC
      have hC : r = (some (.int v23), (SH, s22)) := hC
      subst hC
      exact Rn_ret srt236 53 rfl rfl rfl
    · replace hJ := m_ifn h20 hJ
      refine Rn_sq srt236 45 3 (pc' := (if x1 = (ci 1) then 86 else 93)) (ls' := [some (.ref 88), some (.int x1), some (.int y0)]) (st' := []) (h1 := (SH, s16)) rfl (Rn_if (fun h24 => ?_) (fun h24 => ?_))
      · replace hJ := m_ifp h24 hJ
        refine Rn_sq srt236 48 1 (pc' := 87) (ls' := [some (.ref 88), some (.int x1), some (.int y0)]) (st' := [(.ref 88)]) (h1 := (SH, s16)) rfl ?_
        obtain ⟨v27, s26, h25, hJ⟩ := m_b2 hJ
        refine Rn_call srt236 49 rfl rfl rfl ⟨Nat.le_of_ble_eq_true rfl, Nat.le_of_ble_eq_true rfl, rfl, Nat.le_of_ble_eq_true rfl⟩ (k_X12_putsSigns (d + 129) h25) (show Rn N xs (d + 131) me236 90 [some (.ref 88), some (.int x1), some (.int y0)] [(.int v27)] (SH, s26) r from ?_)
        refine Rn_sq srt236 50 1 (pc' := 97) (ls' := [some (.ref 88), some (.int x1), some (.int y0)]) (st' := [(.int v27)]) (h1 := (SH, s26)) rfl ?_
        rw [← Option.some.inj hJ] at hC
        have hC : r = (some (.int v27), (SH, s26)) := hC
        subst hC
        exact Rn_ret srt236 53 rfl rfl rfl
      · replace hJ := m_ifn h24 hJ
        refine Rn_sq srt236 51 1 (pc' := 94) (ls' := [some (.ref 88), some (.int x1), some (.int y0)]) (st' := [(.ref 88)]) (h1 := (SH, s16)) rfl ?_
        obtain ⟨v30, s29, h28, hJ⟩ := m_b2 hJ
        refine Rn_call srt236 52 rfl rfl rfl ⟨Nat.le_of_ble_eq_true rfl, Nat.le_of_ble_eq_true rfl, rfl, Nat.le_of_ble_eq_true rfl⟩ (k_X12_putsShifts (d + 129) h28) (show Rn N xs (d + 131) me236 97 [some (.ref 88), some (.int x1), some (.int y0)] [(.int v30)] (SH, s29) r from ?_)
        rw [← Option.some.inj hJ] at hC
        have hC : r = (some (.int v30), (SH, s29)) := hC
        subst hC
        exact Rn_ret srt236 53 rfl rfl rfl
def F_X12_text (a1 : Int32) (s : mG) : Option (Int32 × mG) :=
  let s1 : mG := (mu s.1 88 22 (ci 0), s.2)
  let s2 : mG := (mu s1.1 88 24 (ci (-1)), s1.2)
  b1 (F_X12_isIn s2 a1 (ci 0) (ci 2)) fun v4 =>
  if v4 = 0 then
    let s6 : mG := (mu s2.1 88 15 (ci 0), s2.2)
    some ((ci (-1)), s6)
  else
    let s7 : mG := (mu s2.1 88 20 (ci 0), s2.2)
    let s8 : mG := (mu s7.1 88 16 (ci 0), s7.2)
    let s9 : mG := (mu s8.1 88 11 a1, s8.2)
    b1 (F_X12_next0 s9) fun s11 =>
    if a1 = 0 then
      b2 (F_X12_readsLaw s11) fun v15 s14 =>
      F_X12_text_60 a1 v15 s14
    else
      b2 (F_X12_readsRows s11) fun v33 s32 =>
      F_X12_text_60 a1 v33 s32
set_option maxRecDepth 4000 in
theorem k_X12_text_r {N : Nat} {xs : Nat → Int32} (d : Nat) {r : Option Value × mH} {s : mG} {a1 : Int32} {τ : (Int32 × mG)} (hJ : F_X12_text a1 s = some τ) (hC : (fun τ => r = (some (.int τ.1), (SH, τ.2))) τ) : Rn N xs (d + 131) me236 0 [some (.ref 88), some (.int a1), none] [] (SH, s) r := by
  unfold F_X12_text at hJ
  extract_lets +onlyGivenNames s1 at hJ
  extract_lets +onlyGivenNames s2 at hJ
  refine Rn_sq srt236 0 9 (pc' := 13) (ls' := [some (.ref 88), some (.int a1), none]) (st' := [(.int (ci 2)), (.int (ci 0)), (.int a1)]) (h1 := (SH, s2)) rfl ?_
  obtain ⟨v4, h3, hJ⟩ := m_b1 hJ
  refine Rn_call srt236 9 rfl rfl rfl ⟨Nat.le_of_ble_eq_true rfl, Nat.le_of_ble_eq_true rfl, rfl, Nat.le_of_ble_eq_true rfl⟩ (k_X12_isIn (d + 130) h3) (show Rn N xs (d + 131) me236 16 [some (.ref 88), some (.int a1), none] [(.int v4)] (SH, s2) r from ?_)
  refine Rn_sq srt236 10 1 (pc' := (if v4 = 0 then 19 else 26)) (ls' := [some (.ref 88), some (.int a1), none]) (st' := []) (h1 := (SH, s2)) rfl (Rn_if (fun h5 => ?_) (fun h5 => ?_))
  · replace hJ := m_ifp h5 hJ
    extract_lets +onlyGivenNames s6 at hJ
    refine Rn_sq srt236 11 4 (pc' := 25) (ls' := [some (.ref 88), some (.int a1), none]) (st' := [(.int (ci (-1)))]) (h1 := (SH, s6)) rfl ?_
    rw [← Option.some.inj hJ] at hC
    have hC : r = (some (.int (ci (-1))), (SH, s6)) := hC
    subst hC
    exact Rn_ret srt236 15 rfl rfl rfl
  · replace hJ := m_ifn h5 hJ
    extract_lets +onlyGivenNames s7 at hJ
    extract_lets +onlyGivenNames s8 at hJ
    extract_lets +onlyGivenNames s9 at hJ
    refine Rn_sq srt236 16 10 (pc' := 42) (ls' := [some (.ref 88), some (.int a1), none]) (st' := [(.ref 88)]) (h1 := (SH, s9)) rfl ?_
    obtain ⟨s11, h10, hJ⟩ := m_b1 hJ
    refine Rn_call srt236 26 rfl rfl rfl ⟨Nat.le_of_ble_eq_true rfl, Nat.le_of_ble_eq_true rfl, rfl, Nat.le_of_ble_eq_true rfl⟩ (k_X12_next0 (d + 121) h10) (show Rn N xs (d + 131) me236 45 [some (.ref 88), some (.int a1), none] [] (SH, s11) r from ?_)
    refine Rn_sq srt236 27 2 (pc' := (if a1 = 0 then 49 else 56)) (ls' := [some (.ref 88), some (.int a1), none]) (st' := []) (h1 := (SH, s11)) rfl (Rn_if (fun h12 => ?_) (fun h12 => ?_))
    · replace hJ := m_ifp h12 hJ
      refine Rn_sq srt236 29 1 (pc' := 50) (ls' := [some (.ref 88), some (.int a1), none]) (st' := [(.ref 88)]) (h1 := (SH, s11)) rfl ?_
      obtain ⟨v15, s14, h13, hJ⟩ := m_b2 hJ
      refine Rn_call srt236 30 rfl rfl rfl ⟨Nat.le_of_ble_eq_true rfl, Nat.le_of_ble_eq_true rfl, rfl, Nat.le_of_ble_eq_true rfl⟩ (k_X12_readsLaw (d) h13) (show Rn N xs (d + 131) me236 53 [some (.ref 88), some (.int a1), none] [(.int v15)] (SH, s14) r from ?_)
      refine Rn_sq srt236 31 1 (pc' := 60) (ls' := [some (.ref 88), some (.int a1), none]) (st' := [(.int v15)]) (h1 := (SH, s14)) rfl ?_
      exact (k_X12_text_60 d hJ hC)
    · replace hJ := m_ifn h12 hJ
      refine Rn_sq srt236 32 1 (pc' := 57) (ls' := [some (.ref 88), some (.int a1), none]) (st' := [(.ref 88)]) (h1 := (SH, s11)) rfl ?_
      obtain ⟨v33, s32, h31, hJ⟩ := m_b2 hJ
      refine Rn_call srt236 33 rfl rfl rfl ⟨Nat.le_of_ble_eq_true rfl, Nat.le_of_ble_eq_true rfl, rfl, Nat.le_of_ble_eq_true rfl⟩ (k_X12_readsRows (d + 117) h31) (show Rn N xs (d + 131) me236 60 [some (.ref 88), some (.int a1), none] [(.int v33)] (SH, s32) r from ?_)
      exact (k_X12_text_60 d hJ hC)
theorem k_X12_text {N : Nat} {xs : Nat → Int32} (d : Nat) {s : mG} {a1 : Int32} {τ : (Int32 × mG)} (hJ : F_X12_text a1 s = some τ) : Rn N xs (d + 131) me236 0 [some (.ref 88), some (.int a1), none] [] (SH, s) (some (.int τ.1), (SH, τ.2)) := k_X12_text_r d hJ rfl
/-! IsHeInModel.fault(I)I -/
theorem srt237 : m_srt mc237 = true := by decide +kernel
def F_X12_fault (s : mG) (a1 : Int32) : Option (Int32) :=
  if a1 = 0 then
    some (s.1 88 22)
  else
    if a1 = (ci 1) then
      some (s.1 88 24)
    else
      some (ci (-1))
set_option maxRecDepth 4000 in
theorem k_X12_fault_r {N : Nat} {xs : Nat → Int32} (d : Nat) {r : Option Value × mH} {s : mG} {a1 : Int32} {τ : (Int32)} (hJ : F_X12_fault s a1 = some τ) (hC : (fun τ => r = (some (.int τ), (SH, s))) τ) : Rn N xs (d + 0) me237 0 [some (.ref 88), some (.int a1)] [] (SH, s) r := by
  unfold F_X12_fault at hJ
  refine Rn_sq srt237 0 2 (pc' := (if a1 = 0 then 4 else 11)) (ls' := [some (.ref 88), some (.int a1)]) (st' := []) (h1 := (SH, s)) rfl (Rn_if (fun h1 => ?_) (fun h1 => ?_))
  · replace hJ := m_ifp h1 hJ
    refine Rn_sq srt237 2 3 (pc' := 24) (ls' := [some (.ref 88), some (.int a1)]) (st' := [(.int (s.1 88 22))]) (h1 := (SH, s)) rfl ?_
    rw [← Option.some.inj hJ] at hC
    have hC : r = (some (.int (s.1 88 22)), (SH, s)) := hC
    subst hC
    exact Rn_ret srt237 12 rfl rfl rfl
  · replace hJ := m_ifn h1 hJ
    refine Rn_sq srt237 5 3 (pc' := (if a1 = (ci 1) then 16 else 23)) (ls' := [some (.ref 88), some (.int a1)]) (st' := []) (h1 := (SH, s)) rfl (Rn_if (fun h2 => ?_) (fun h2 => ?_))
    · replace hJ := m_ifp h2 hJ
      refine Rn_sq srt237 8 3 (pc' := 24) (ls' := [some (.ref 88), some (.int a1)]) (st' := [(.int (s.1 88 24))]) (h1 := (SH, s)) rfl ?_
      rw [← Option.some.inj hJ] at hC
      have hC : r = (some (.int (s.1 88 24)), (SH, s)) := hC
      subst hC
      exact Rn_ret srt237 12 rfl rfl rfl
    · replace hJ := m_ifn h2 hJ
      refine Rn_sq srt237 11 1 (pc' := 24) (ls' := [some (.ref 88), some (.int a1)]) (st' := [(.int (ci (-1)))]) (h1 := (SH, s)) rfl ?_
      rw [← Option.some.inj hJ] at hC
      have hC : r = (some (.int (ci (-1))), (SH, s)) := hC
      subst hC
      exact Rn_ret srt237 12 rfl rfl rfl
theorem k_X12_fault {N : Nat} {xs : Nat → Int32} (d : Nat) {s : mG} {a1 : Int32} {τ : (Int32)} (hJ : F_X12_fault s a1 = some τ) : Rn N xs (d + 0) me237 0 [some (.ref 88), some (.int a1)] [] (SH, s) (some (.int τ), (SH, s)) := k_X12_fault_r d hJ rfl
/-! IsHeInModel.both(III)I -/
theorem srt238 : m_srt mc238 = true := by decide +kernel
def F_X12_both_101 (s : mG) (x1 : Int32) (x2 : Int32) : Option (Int32) :=
  some (x1 ||| x2)
set_option maxRecDepth 4000 in
theorem k_X12_both_101 {N : Nat} {xs : Nat → Int32} (d : Nat) {r : Option Value × mH} {s : mG} {x1 : Int32} {x2 : Int32} {τ : (Int32)} (hJ : F_X12_both_101 s x1 x2 = some τ) (hC : (fun τ => r = (some (.int τ), (SH, s))) τ) : Rn N xs (d + 0) me238 101 [none, some (.int x1), some (.int x2)] [] (SH, s) r := by
  unfold F_X12_both_101 at hJ
  refine Rn_sq srt238 39 3 (pc' := 104) (ls' := [none, some (.int x1), some (.int x2)]) (st' := [(.int (x1 ||| x2))]) (h1 := (SH, s)) rfl ?_
  rw [← Option.some.inj hJ] at hC
  have hC : r = (some (.int (x1 ||| x2)), (SH, s)) := hC
  subst hC
  exact Rn_ret srt238 42 rfl rfl rfl
def F_X12_both (s : mG) (a1 : Int32) (a2 : Int32) (a3 : Int32) : Option (Int32) :=
  if a1 = ci 23 then
    some (a2 + a3)
  else
  if a1 = ci 24 then
    some (a2 - a3)
  else
  if a1 = ci 25 then
    some (a2 * a3)
  else
  if a1 = ci 26 then
    F_X12_both_101 s a2 a3
  else
  if a1 = ci 27 then
    if a3 ≤ a2 then
      some (ci 0)
    else
      some (ci 1)
  else
  if a1 = ci 28 then
    if a2 = a3 then
      some (ci 1)
    else
      some (ci 0)
  else
  if a1 = ci 29 then
    if a2 ≤ a3 then
      some (ci 0)
    else
      some (ci 1)
  else
  if a1 = ci 30 then
    F_X12_both_101 s a2 a3
  else
  if a1 = ci 31 then
    some (a2 &&& a3)
  else
  F_X12_both_101 s a2 a3
set_option maxRecDepth 4000 in
theorem k_X12_both_r {N : Nat} {xs : Nat → Int32} (d : Nat) {r : Option Value × mH} {s : mG} {a1 : Int32} {a2 : Int32} {a3 : Int32} {τ : (Int32)} (hJ : F_X12_both s a1 a2 a3 = some τ) (hC : (fun τ => r = (some (.int τ), (SH, s))) τ) : Rn N xs (d + 0) me238 0 [some (.int a1), some (.int a2), some (.int a3)] [] (SH, s) r := by
  unfold F_X12_both at hJ
  refine Rn_sq srt238 0 1 (pc' := 1) (ls' := [some (.int a1), some (.int a2), some (.int a3)]) (st' := [(.int a1)]) (h1 := (SH, s)) rfl ?_
  by_cases h1 : a1 = ci 23
  · replace hJ := m_ifp h1 hJ
    refine Rn_ev srt238 1 rfl rfl rfl (op_sw h1 (show _ = some (52, _) from rfl)) ?_
    refine Rn_sq srt238 2 3 (pc' := 55) (ls' := [some (.int a1), some (.int a2), some (.int a3)]) (st' := [(.int (a2 + a3))]) (h1 := (SH, s)) rfl ?_
    rw [← Option.some.inj hJ] at hC
    have hC : r = (some (.int (a2 + a3)), (SH, s)) := hC
    subst hC
    exact Rn_ret srt238 5 rfl rfl rfl
  replace hJ := m_ifn h1 hJ
  by_cases h2 : a1 = ci 24
  · replace hJ := m_ifp h2 hJ
    refine Rn_ev srt238 1 rfl rfl rfl (op_sw h2 (show _ = some (56, _) from rfl)) ?_
    refine Rn_sq srt238 6 3 (pc' := 59) (ls' := [some (.int a1), some (.int a2), some (.int a3)]) (st' := [(.int (a2 - a3))]) (h1 := (SH, s)) rfl ?_
    rw [← Option.some.inj hJ] at hC
    have hC : r = (some (.int (a2 - a3)), (SH, s)) := hC
    subst hC
    exact Rn_ret srt238 9 rfl rfl rfl
  replace hJ := m_ifn h2 hJ
  by_cases h3 : a1 = ci 25
  · replace hJ := m_ifp h3 hJ
    refine Rn_ev srt238 1 rfl rfl rfl (op_sw h3 (show _ = some (60, _) from rfl)) ?_
    refine Rn_sq srt238 10 3 (pc' := 63) (ls' := [some (.int a1), some (.int a2), some (.int a3)]) (st' := [(.int (a2 * a3))]) (h1 := (SH, s)) rfl ?_
    rw [← Option.some.inj hJ] at hC
    have hC : r = (some (.int (a2 * a3)), (SH, s)) := hC
    subst hC
    exact Rn_ret srt238 13 rfl rfl rfl
  replace hJ := m_ifn h3 hJ
  by_cases h4 : a1 = ci 26
  · replace hJ := m_ifp h4 hJ
    refine Rn_ev srt238 1 rfl rfl rfl (op_sw h4 (show _ = some (101, _) from rfl)) ?_
    exact Rn_weaken (a := [none, some (.int a2), some (.int a3)]) (b := [some (.int a1), some (.int a2), some (.int a3)]) (And.intro rfl (And.intro rfl trivial)) rfl (k_X12_both_101 d hJ hC)
  replace hJ := m_ifn h4 hJ
  by_cases h5 : a1 = ci 27
  · replace hJ := m_ifp h5 hJ
    refine Rn_ev srt238 1 rfl rfl rfl (op_sw h5 (show _ = some (64, _) from rfl)) ?_
    refine Rn_sq srt238 14 3 (pc' := (if a3 ≤ a2 then 73 else 69)) (ls' := [some (.int a1), some (.int a2), some (.int a3)]) (st' := []) (h1 := (SH, s)) rfl (Rn_if (fun h6 => ?_) (fun h6 => ?_))
    · replace hJ := m_ifp h6 hJ
      refine Rn_sq srt238 19 1 (pc' := 74) (ls' := [some (.int a1), some (.int a2), some (.int a3)]) (st' := [(.int (ci 0))]) (h1 := (SH, s)) rfl ?_
      rw [← Option.some.inj hJ] at hC
      have hC : r = (some (.int (ci 0)), (SH, s)) := hC
      subst hC
      exact Rn_ret srt238 20 rfl rfl rfl
    · replace hJ := m_ifn h6 hJ
      refine Rn_sq srt238 17 2 (pc' := 74) (ls' := [some (.int a1), some (.int a2), some (.int a3)]) (st' := [(.int (ci 1))]) (h1 := (SH, s)) rfl ?_
      rw [← Option.some.inj hJ] at hC
      have hC : r = (some (.int (ci 1)), (SH, s)) := hC
      subst hC
      exact Rn_ret srt238 20 rfl rfl rfl
  replace hJ := m_ifn h5 hJ
  by_cases h7 : a1 = ci 28
  · replace hJ := m_ifp h7 hJ
    refine Rn_ev srt238 1 rfl rfl rfl (op_sw h7 (show _ = some (75, _) from rfl)) ?_
    refine Rn_sq srt238 21 3 (pc' := (if a2 = a3 then 80 else 84)) (ls' := [some (.int a1), some (.int a2), some (.int a3)]) (st' := []) (h1 := (SH, s)) rfl (Rn_if (fun h8 => ?_) (fun h8 => ?_))
    · replace hJ := m_ifp h8 hJ
      refine Rn_sq srt238 24 2 (pc' := 85) (ls' := [some (.int a1), some (.int a2), some (.int a3)]) (st' := [(.int (ci 1))]) (h1 := (SH, s)) rfl ?_
      rw [← Option.some.inj hJ] at hC
      have hC : r = (some (.int (ci 1)), (SH, s)) := hC
      subst hC
      exact Rn_ret srt238 27 rfl rfl rfl
    · replace hJ := m_ifn h8 hJ
      refine Rn_sq srt238 26 1 (pc' := 85) (ls' := [some (.int a1), some (.int a2), some (.int a3)]) (st' := [(.int (ci 0))]) (h1 := (SH, s)) rfl ?_
      rw [← Option.some.inj hJ] at hC
      have hC : r = (some (.int (ci 0)), (SH, s)) := hC
      subst hC
      exact Rn_ret srt238 27 rfl rfl rfl
  replace hJ := m_ifn h7 hJ
  by_cases h9 : a1 = ci 29
  · replace hJ := m_ifp h9 hJ
    refine Rn_ev srt238 1 rfl rfl rfl (op_sw h9 (show _ = some (86, _) from rfl)) ?_
    refine Rn_sq srt238 28 3 (pc' := (if a2 ≤ a3 then 95 else 91)) (ls' := [some (.int a1), some (.int a2), some (.int a3)]) (st' := []) (h1 := (SH, s)) rfl (Rn_if (fun h10 => ?_) (fun h10 => ?_))
    · replace hJ := m_ifp h10 hJ
      refine Rn_sq srt238 33 1 (pc' := 96) (ls' := [some (.int a1), some (.int a2), some (.int a3)]) (st' := [(.int (ci 0))]) (h1 := (SH, s)) rfl ?_
      rw [← Option.some.inj hJ] at hC
      have hC : r = (some (.int (ci 0)), (SH, s)) := hC
      subst hC
      exact Rn_ret srt238 34 rfl rfl rfl
    · replace hJ := m_ifn h10 hJ
      refine Rn_sq srt238 31 2 (pc' := 96) (ls' := [some (.int a1), some (.int a2), some (.int a3)]) (st' := [(.int (ci 1))]) (h1 := (SH, s)) rfl ?_
      rw [← Option.some.inj hJ] at hC
      have hC : r = (some (.int (ci 1)), (SH, s)) := hC
      subst hC
      exact Rn_ret srt238 34 rfl rfl rfl
  replace hJ := m_ifn h9 hJ
  by_cases h11 : a1 = ci 30
  · replace hJ := m_ifp h11 hJ
    refine Rn_ev srt238 1 rfl rfl rfl (op_sw h11 (show _ = some (101, _) from rfl)) ?_
    exact Rn_weaken (a := [none, some (.int a2), some (.int a3)]) (b := [some (.int a1), some (.int a2), some (.int a3)]) (And.intro rfl (And.intro rfl trivial)) rfl (k_X12_both_101 d hJ hC)
  replace hJ := m_ifn h11 hJ
  by_cases h12 : a1 = ci 31
  · replace hJ := m_ifp h12 hJ
    refine Rn_ev srt238 1 rfl rfl rfl (op_sw h12 (show _ = some (97, _) from rfl)) ?_
    refine Rn_sq srt238 35 3 (pc' := 100) (ls' := [some (.int a1), some (.int a2), some (.int a3)]) (st' := [(.int (a2 &&& a3))]) (h1 := (SH, s)) rfl ?_
    rw [← Option.some.inj hJ] at hC
    have hC : r = (some (.int (a2 &&& a3)), (SH, s)) := hC
    subst hC
    exact Rn_ret srt238 38 rfl rfl rfl
  replace hJ := m_ifn h12 hJ
  refine Rn_ev srt238 1 rfl rfl rfl (op_swd (tg := 101) (sw_out (by decide) (by decide) (by intro v hv1 hv2; rcases (show v = 23 ∨ v = 24 ∨ v = 25 ∨ v = 26 ∨ v = 27 ∨ v = 28 ∨ v = 29 ∨ v = 30 ∨ v = 31 by omega) with rfl | rfl | rfl | rfl | rfl | rfl | rfl | rfl | rfl <;> assumption)) rfl) ?_
  exact Rn_weaken (a := [none, some (.int a2), some (.int a3)]) (b := [some (.int a1), some (.int a2), some (.int a3)]) (And.intro rfl (And.intro rfl trivial)) rfl (k_X12_both_101 d hJ hC)
theorem k_X12_both {N : Nat} {xs : Nat → Int32} (d : Nat) {s : mG} {a1 : Int32} {a2 : Int32} {a3 : Int32} {τ : (Int32)} (hJ : F_X12_both s a1 a2 a3 = some τ) : Rn N xs (d + 0) me238 0 [some (.int a1), some (.int a2), some (.int a3)] [] (SH, s) (some (.int τ), (SH, s)) := k_X12_both_r d hJ rfl
/-! IsHeInModel.comesTo(III)I -/
theorem srt239 : m_srt mc239 = true := by decide +kernel
def C_X12_comesTo_6 (N : Nat) (xs : Nat → Int32) (d : Nat) (r : Option Value × mH) (C : (Int32 × mG) → Prop) : ((Int32 × Int32 × Int32 × Int32 × mG) ⊕ (Int32 × mG)) → Prop
  | .inl v => Rn N xs (d + 1) me239 6 [some (.ref 88), some (.int v.1), none, some (.int v.2.1), some (.int v.2.2.1), some (.int v.2.2.2.1), none, none] [] (SH, v.2.2.2.2) r
  | .inr a => C a
def F_X12_comesTo_180 (x1 : Int32) (x3 : Int32) (x4 : Int32) (x5 : Int32) (s : mG) : Option ((Int32 × Int32 × Int32 × Int32 × mG) ⊕ (Int32 × mG)) :=
  some (Sum.inl (x1, x3, x4, (x5 + ci 1), s))
set_option maxRecDepth 4000 in
theorem k_X12_comesTo_180 {N : Nat} {xs : Nat → Int32} (d : Nat) {r : Option Value × mH} {s : mG} {x1 : Int32} {x3 : Int32} {x4 : Int32} {x5 : Int32} {τ : ((Int32 × Int32 × Int32 × Int32 × mG) ⊕ (Int32 × mG))} (hJ : F_X12_comesTo_180 x1 x3 x4 x5 s = some τ) (hC : (C_X12_comesTo_6 N xs d r (fun τ => r = (some (.int τ.1), (SH, τ.2)))) τ) : Rn N xs (d + 1) me239 180 [some (.ref 88), some (.int x1), none, some (.int x3), some (.int x4), some (.int x5), none, none] [] (SH, s) r := by
  unfold F_X12_comesTo_180 at hJ
  refine Rn_sq srt239 103 2 (pc' := 6) (ls' := [some (.ref 88), some (.int x1), none, some (.int x3), some (.int x4), some (.int (x5 + ci 1)), none, none]) (st' := []) (h1 := (SH, s)) rfl ?_
  rw [← Option.some.inj hJ] at hC
  exact hC
def F_X12_comesTo_86 (x1 : Int32) (x3 : Int32) (x4 : Int32) (x5 : Int32) (y1 : Int32) (y2 : Int32) (s : mG) : Option ((Int32 × Int32 × Int32 × Int32 × mG) ⊕ (Int32 × mG)) :=
  if y1 < 0 ∨ 420 ≤ y1.toNatClampNeg then none else
  let s24 : mG := (mu s.1 96 y1.toNatClampNeg y2, s.2)
  F_X12_comesTo_180 x1 x3 (x4 + ci 1) x5 s24
set_option maxRecDepth 4000 in
theorem k_X12_comesTo_86 {N : Nat} {xs : Nat → Int32} (d : Nat) {r : Option Value × mH} {s : mG} {x1 : Int32} {x3 : Int32} {x4 : Int32} {x5 : Int32} {y1 : Int32} {y2 : Int32} {τ : ((Int32 × Int32 × Int32 × Int32 × mG) ⊕ (Int32 × mG))} (hJ : F_X12_comesTo_86 x1 x3 x4 x5 y1 y2 s = some τ) (hC : (C_X12_comesTo_6 N xs d r (fun τ => r = (some (.int τ.1), (SH, τ.2)))) τ) : Rn N xs (d + 1) me239 86 [some (.ref 88), some (.int x1), none, some (.int x3), some (.int x4), some (.int x5), none, none] [(.int y2), (.int y1), (.ref 96)] (SH, s) r := by
  unfold F_X12_comesTo_86 at hJ
  obtain ⟨h23, hJ⟩ := m_gn hJ
  extract_lets +onlyGivenNames s24 at hJ
  refine Rn_ev srt239 49 rfl rfl rfl (op_ias sh96 h23 (k := y1.toNatClampNeg) rfl) ?_
  refine Rn_sq srt239 50 2 (pc' := 180) (ls' := [some (.ref 88), some (.int x1), none, some (.int x3), some (.int (x4 + ci 1)), some (.int x5), none, none]) (st' := []) (h1 := (SH, s24)) rfl ?_
  exact (k_X12_comesTo_180 d hJ hC)
def F_X12_comesTo_B6 (x1 : Int32) (x3 : Int32) (x4 : Int32) (x5 : Int32) (s : mG) : Option ((Int32 × Int32 × Int32 × Int32 × mG) ⊕ (Int32 × mG)) :=
  if x3 ≤ x5 then
    some (Sum.inr ((s.1 96 0), s))
  else
    if (((c16 1050) + ((c16 820) * x1)) + ((ci 2) * x5)) < 0 ∨ 1894 ≤ (((c16 1050) + ((c16 820) * x1)) + ((ci 2) * x5)).toNatClampNeg then none else
    let v3 : Int32 := (s.1 89 (((c16 1050) + ((c16 820) * x1)) + ((ci 2) * x5)).toNatClampNeg)
    if ((((c16 1050) + ((c16 820) * x1)) + ((ci 2) * x5)) + (ci 1)) < 0 ∨ 1894 ≤ ((((c16 1050) + ((c16 820) * x1)) + ((ci 2) * x5)) + (ci 1)).toNatClampNeg then none else
    let v5 : Int32 := (s.1 89 ((((c16 1050) + ((c16 820) * x1)) + ((ci 2) * x5)) + (ci 1)).toNatClampNeg)
    if (c8 23) ≤ v3 then
      if v3 = (c8 26) then
        if (x4 - (ci 1)) < 0 ∨ 420 ≤ (x4 - (ci 1)).toNatClampNeg then none else
        if v5 = 0 then none else
        if (x4 - (ci 1)) < 0 ∨ 420 ≤ (x4 - (ci 1)).toNatClampNeg then none else
        let s11 : mG := (mu s.1 96 (x4 - (ci 1)).toNatClampNeg ((s.1 96 (x4 - (ci 1)).toNatClampNeg) / v5), s.2)
        F_X12_comesTo_180 x1 x3 x4 x5 s11
      else
        if v3 = (c8 30) then
          if (x4 - (ci 1)) < 0 ∨ 420 ≤ (x4 - (ci 1)).toNatClampNeg then none else
          if (x4 - (ci 1)) < 0 ∨ 420 ≤ (x4 - (ci 1)).toNatClampNeg then none else
          let s15 : mG := (mu s.1 96 (x4 - (ci 1)).toNatClampNeg ((ci 1) - (s.1 96 (x4 - (ci 1)).toNatClampNeg)), s.2)
          F_X12_comesTo_180 x1 x3 x4 x5 s15
        else
          if ((x4 + ci (-1)) - (ci 1)) < 0 ∨ 420 ≤ ((x4 + ci (-1)) - (ci 1)).toNatClampNeg then none else
          if (x4 + ci (-1)) < 0 ∨ 420 ≤ (x4 + ci (-1)).toNatClampNeg then none else
          b1 (F_X12_both s v3 (s.1 96 ((x4 + ci (-1)) - (ci 1)).toNatClampNeg) (s.1 96 (x4 + ci (-1)).toNatClampNeg)) fun v19 =>
          if ((x4 + ci (-1)) - (ci 1)) < 0 ∨ 420 ≤ ((x4 + ci (-1)) - (ci 1)).toNatClampNeg then none else
          let s21 : mG := (mu s.1 96 ((x4 + ci (-1)) - (ci 1)).toNatClampNeg v19, s.2)
          F_X12_comesTo_180 x1 x3 (x4 + ci (-1)) x5 s21
    else
      if v3 = 0 then
        F_X12_comesTo_86 x1 x3 x4 x5 x4 v5 s
      else
        if v3 < 0 ∨ 10 ≤ v3.toNatClampNeg then none else
        F_X12_comesTo_86 x1 x3 x4 x5 x4 (s.1 97 v3.toNatClampNeg) s
set_option maxRecDepth 4000 in
theorem k_X12_comesTo_B6 {N : Nat} {xs : Nat → Int32} (d : Nat) {r : Option Value × mH} {s : mG} {x1 : Int32} {x3 : Int32} {x4 : Int32} {x5 : Int32} {τ : ((Int32 × Int32 × Int32 × Int32 × mG) ⊕ (Int32 × mG))} (hJ : F_X12_comesTo_B6 x1 x3 x4 x5 s = some τ) (hC : (C_X12_comesTo_6 N xs d r (fun τ => r = (some (.int τ.1), (SH, τ.2)))) τ) : Rn N xs (d + 1) me239 6 [some (.ref 88), some (.int x1), none, some (.int x3), some (.int x4), some (.int x5), none, none] [] (SH, s) r := by
  unfold F_X12_comesTo_B6 at hJ
  refine Rn_sq srt239 4 3 (pc' := (if x3 ≤ x5 then 186 else 12)) (ls' := [some (.ref 88), some (.int x1), none, some (.int x3), some (.int x4), some (.int x5), none, none]) (st' := []) (h1 := (SH, s)) rfl (Rn_if (fun h1 => ?_) (fun h1 => ?_))
  · replace hJ := m_ifp h1 hJ
    refine Rn_sq srt239 105 3 (pc' := 191) (ls' := [some (.ref 88), some (.int x1), none, some (.int x3), some (.int x4), some (.int x5), none, none]) (st' := [(.int (ci 0)), (.ref 96)]) (h1 := (SH, s)) rfl ?_
    refine Rn_ev srt239 108 rfl rfl rfl (op_ia sh96 (by decide) (k := 0) rfl) ?_
    rw [← Option.some.inj hJ] at hC
    have hC : r = (some (.int (s.1 96 0)), (SH, s)) := hC
    subst hC
    exact Rn_ret srt239 109 rfl rfl rfl
  · replace hJ := m_ifn h1 hJ
    refine Rn_sq srt239 7 11 (pc' := 30) (ls' := [some (.ref 88), some (.int x1), none, some (.int x3), some (.int x4), some (.int x5), none, none]) (st' := [(.int (((c16 1050) + ((c16 820) * x1)) + ((ci 2) * x5))), (.ref 89)]) (h1 := (SH, s)) rfl ?_
    obtain ⟨h2, hJ⟩ := m_gn hJ
    refine Rn_ev srt239 18 rfl rfl rfl (op_ia sh89 h2 (k := (((c16 1050) + ((c16 820) * x1)) + ((ci 2) * x5)).toNatClampNeg) rfl) ?_
    extract_lets +onlyGivenNames v3 at hJ
    refine Rn_sq srt239 19 14 (pc' := 53) (ls' := [some (.ref 88), some (.int x1), none, some (.int x3), some (.int x4), some (.int x5), some (.int v3), none]) (st' := [(.int ((((c16 1050) + ((c16 820) * x1)) + ((ci 2) * x5)) + (ci 1))), (.ref 89)]) (h1 := (SH, s)) rfl ?_
    obtain ⟨h4, hJ⟩ := m_gn hJ
    refine Rn_ev srt239 33 rfl rfl rfl (op_ia sh89 h4 (k := ((((c16 1050) + ((c16 820) * x1)) + ((ci 2) * x5)) + (ci 1)).toNatClampNeg) rfl) ?_
    extract_lets +onlyGivenNames v5 at hJ
    refine Rn_sq srt239 34 4 (pc' := (if (c8 23) ≤ v3 then 93 else 63)) (ls' := [some (.ref 88), some (.int x1), none, some (.int x3), some (.int x4), some (.int x5), some (.int v3), some (.int v5)]) (st' := []) (h1 := (SH, s)) rfl (Rn_if (fun h6 => ?_) (fun h6 => ?_))
    · replace hJ := m_ifp h6 hJ
      refine Rn_sq srt239 52 3 (pc' := (if v3 = (c8 26) then 100 else 117)) (ls' := [some (.ref 88), some (.int x1), none, some (.int x3), some (.int x4), some (.int x5), some (.int v3), some (.int v5)]) (st' := []) (h1 := (SH, s)) rfl (Rn_if (fun h7 => ?_) (fun h7 => ?_))
      · replace hJ := m_ifp h7 hJ
        refine Rn_sq srt239 55 6 (pc' := 109) (ls' := [some (.ref 88), some (.int x1), none, some (.int x3), some (.int x4), some (.int x5), some (.int v3), some (.int v5)]) (st' := [(.int (x4 - (ci 1))), (.ref 96), (.int (x4 - (ci 1))), (.ref 96)]) (h1 := (SH, s)) rfl ?_
        obtain ⟨h8, hJ⟩ := m_gn hJ
        refine Rn_ev srt239 61 rfl rfl rfl (op_ia sh96 h8 (k := (x4 - (ci 1)).toNatClampNeg) rfl) ?_
        refine Rn_sq srt239 62 1 (pc' := 112) (ls' := [some (.ref 88), some (.int x1), none, some (.int x3), some (.int x4), some (.int x5), some (.int v3), some (.int v5)]) (st' := [(.int v5), (.int (s.1 96 (x4 - (ci 1)).toNatClampNeg)), (.int (x4 - (ci 1))), (.ref 96)]) (h1 := (SH, s)) rfl ?_
        obtain ⟨h9, hJ⟩ := m_gn hJ
        refine Rn_ev srt239 63 rfl rfl rfl (op_idiv h9) ?_
        obtain ⟨h10, hJ⟩ := m_gn hJ
        extract_lets +onlyGivenNames s11 at hJ
        refine Rn_ev srt239 64 rfl rfl rfl (op_ias sh96 h10 (k := (x4 - (ci 1)).toNatClampNeg) rfl) ?_
        refine Rn_sq srt239 65 1 (pc' := 180) (ls' := [some (.ref 88), some (.int x1), none, some (.int x3), some (.int x4), some (.int x5), some (.int v3), some (.int v5)]) (st' := []) (h1 := (SH, s11)) rfl ?_
        exact Rn_weaken (a := [some (.ref 88), some (.int x1), none, some (.int x3), some (.int x4), some (.int x5), none, none]) (b := [some (.ref 88), some (.int x1), none, some (.int x3), some (.int x4), some (.int x5), some (.int v3), some (.int v5)]) (And.intro rfl (And.intro rfl (And.intro rfl (And.intro rfl (And.intro rfl trivial))))) rfl (k_X12_comesTo_180 d hJ hC)
      · replace hJ := m_ifn h7 hJ
        refine Rn_sq srt239 66 3 (pc' := (if v3 = (c8 30) then 124 else 147)) (ls' := [some (.ref 88), some (.int x1), none, some (.int x3), some (.int x4), some (.int x5), some (.int v3), some (.int v5)]) (st' := []) (h1 := (SH, s)) rfl (Rn_if (fun h12 => ?_) (fun h12 => ?_))
        · replace hJ := m_ifp h12 hJ
          refine Rn_sq srt239 69 11 (pc' := 141) (ls' := [some (.ref 88), some (.int x1), none, some (.int x3), some (.int x4), some (.int x5), some (.int v3), some (.int v5)]) (st' := [(.int (x4 - (ci 1))), (.ref 96), (.int (ci 1)), (.int (x4 - (ci 1))), (.ref 96)]) (h1 := (SH, s)) rfl ?_
          obtain ⟨h13, hJ⟩ := m_gn hJ
          refine Rn_ev srt239 80 rfl rfl rfl (op_ia sh96 h13 (k := (x4 - (ci 1)).toNatClampNeg) rfl) ?_
          refine Rn_sq srt239 81 1 (pc' := 143) (ls' := [some (.ref 88), some (.int x1), none, some (.int x3), some (.int x4), some (.int x5), some (.int v3), some (.int v5)]) (st' := [(.int ((ci 1) - (s.1 96 (x4 - (ci 1)).toNatClampNeg))), (.int (x4 - (ci 1))), (.ref 96)]) (h1 := (SH, s)) rfl ?_
          obtain ⟨h14, hJ⟩ := m_gn hJ
          extract_lets +onlyGivenNames s15 at hJ
          refine Rn_ev srt239 82 rfl rfl rfl (op_ias sh96 h14 (k := (x4 - (ci 1)).toNatClampNeg) rfl) ?_
          refine Rn_sq srt239 83 1 (pc' := 180) (ls' := [some (.ref 88), some (.int x1), none, some (.int x3), some (.int x4), some (.int x5), some (.int v3), some (.int v5)]) (st' := []) (h1 := (SH, s15)) rfl ?_
          exact Rn_weaken (a := [some (.ref 88), some (.int x1), none, some (.int x3), some (.int x4), some (.int x5), none, none]) (b := [some (.ref 88), some (.int x1), none, some (.int x3), some (.int x4), some (.int x5), some (.int v3), some (.int v5)]) (And.intro rfl (And.intro rfl (And.intro rfl (And.intro rfl (And.intro rfl trivial))))) rfl (k_X12_comesTo_180 d hJ hC)
        · replace hJ := m_ifn h12 hJ
          refine Rn_sq srt239 84 12 (pc' := 168) (ls' := [some (.ref 88), some (.int x1), none, some (.int x3), some (.int (x4 + ci (-1))), some (.int x5), some (.int v3), some (.int v5)]) (st' := [(.int ((x4 + ci (-1)) - (ci 1))), (.ref 96), (.int v3), (.int ((x4 + ci (-1)) - (ci 1))), (.ref 96)]) (h1 := (SH, s)) rfl ?_
          obtain ⟨h16, hJ⟩ := m_gn hJ
          refine Rn_ev srt239 96 rfl rfl rfl (op_ia sh96 h16 (k := ((x4 + ci (-1)) - (ci 1)).toNatClampNeg) rfl) ?_
          refine Rn_sq srt239 97 3 (pc' := 175) (ls' := [some (.ref 88), some (.int x1), none, some (.int x3), some (.int (x4 + ci (-1))), some (.int x5), some (.int v3), some (.int v5)]) (st' := [(.int (x4 + ci (-1))), (.ref 96), (.int (s.1 96 ((x4 + ci (-1)) - (ci 1)).toNatClampNeg)), (.int v3), (.int ((x4 + ci (-1)) - (ci 1))), (.ref 96)]) (h1 := (SH, s)) rfl ?_
          obtain ⟨h17, hJ⟩ := m_gn hJ
          refine Rn_ev srt239 100 rfl rfl rfl (op_ia sh96 h17 (k := (x4 + ci (-1)).toNatClampNeg) rfl) ?_
          obtain ⟨v19, h18, hJ⟩ := m_b1 hJ
          refine Rn_call srt239 101 rfl rfl rfl ⟨Nat.le_of_ble_eq_true rfl, Nat.le_of_ble_eq_true rfl, rfl, Nat.le_of_ble_eq_true rfl⟩ (k_X12_both (d) h18) (show Rn N xs (d + 1) me239 179 [some (.ref 88), some (.int x1), none, some (.int x3), some (.int (x4 + ci (-1))), some (.int x5), some (.int v3), some (.int v5)] [(.int v19), (.int ((x4 + ci (-1)) - (ci 1))), (.ref 96)] (SH, s) r from ?_)
          obtain ⟨h20, hJ⟩ := m_gn hJ
          extract_lets +onlyGivenNames s21 at hJ
          refine Rn_ev srt239 102 rfl rfl rfl (op_ias sh96 h20 (k := ((x4 + ci (-1)) - (ci 1)).toNatClampNeg) rfl) ?_
          exact Rn_weaken (a := [some (.ref 88), some (.int x1), none, some (.int x3), some (.int (x4 + ci (-1))), some (.int x5), none, none]) (b := [some (.ref 88), some (.int x1), none, some (.int x3), some (.int (x4 + ci (-1))), some (.int x5), some (.int v3), some (.int v5)]) (And.intro rfl (And.intro rfl (And.intro rfl (And.intro rfl (And.intro rfl trivial))))) rfl (k_X12_comesTo_180 d hJ hC)
    · replace hJ := m_ifn h6 hJ
      refine Rn_sq srt239 38 5 (pc' := (if v3 = 0 then 74 else 79)) (ls' := [some (.ref 88), some (.int x1), none, some (.int x3), some (.int x4), some (.int x5), some (.int v3), some (.int v5)]) (st' := [(.int x4), (.ref 96)]) (h1 := (SH, s)) rfl (Rn_if (fun h22 => ?_) (fun h22 => ?_))
      · replace hJ := m_ifp h22 hJ
        refine Rn_sq srt239 43 2 (pc' := 86) (ls' := [some (.ref 88), some (.int x1), none, some (.int x3), some (.int x4), some (.int x5), some (.int v3), some (.int v5)]) (st' := [(.int v5), (.int x4), (.ref 96)]) (h1 := (SH, s)) rfl ?_
        exact Rn_weaken (a := [some (.ref 88), some (.int x1), none, some (.int x3), some (.int x4), some (.int x5), none, none]) (b := [some (.ref 88), some (.int x1), none, some (.int x3), some (.int x4), some (.int x5), some (.int v3), some (.int v5)]) (And.intro rfl (And.intro rfl (And.intro rfl (And.intro rfl (And.intro rfl trivial))))) rfl (k_X12_comesTo_86 d hJ hC)
      · replace hJ := m_ifn h22 hJ
        refine Rn_sq srt239 45 3 (pc' := 85) (ls' := [some (.ref 88), some (.int x1), none, some (.int x3), some (.int x4), some (.int x5), some (.int v3), some (.int v5)]) (st' := [(.int v3), (.ref 97), (.int x4), (.ref 96)]) (h1 := (SH, s)) rfl ?_
        obtain ⟨h25, hJ⟩ := m_gn hJ
        refine Rn_ev srt239 48 rfl rfl rfl (op_ia sh97 h25 (k := v3.toNatClampNeg) rfl) ?_
        exact Rn_weaken (a := [some (.ref 88), some (.int x1), none, some (.int x3), some (.int x4), some (.int x5), none, none]) (b := [some (.ref 88), some (.int x1), none, some (.int x3), some (.int x4), some (.int x5), some (.int v3), some (.int v5)]) (And.intro rfl (And.intro rfl (And.intro rfl (And.intro rfl (And.intro rfl trivial))))) rfl (k_X12_comesTo_86 d hJ hC)
def F_X12_comesTo_L6 (x1 : Int32) (x3 : Int32) (x4 : Int32) (x5 : Int32) (s : mG) : Option (Int32 × mG) := whl (fun (v : (Int32 × Int32 × Int32 × Int32 × mG)) => F_X12_comesTo_B6 v.1 v.2.1 v.2.2.1 v.2.2.2.1 v.2.2.2.2) (x1, x3, x4, x5, s)
theorem k_X12_comesTo_L6 {N : Nat} {xs : Nat → Int32} (d : Nat) {r : Option Value × mH} {s : mG} {x1 : Int32} {x3 : Int32} {x4 : Int32} {x5 : Int32} {τ : (Int32 × mG)} (hJ : F_X12_comesTo_L6 x1 x3 x4 x5 s = some τ) (hC : (fun τ => r = (some (.int τ.1), (SH, τ.2))) τ) : Rn N xs (d + 1) me239 6 [some (.ref 88), some (.int x1), none, some (.int x3), some (.int x4), some (.int x5), none, none] [] (SH, s) r :=
  whl_link (P := fun (v : (Int32 × Int32 × Int32 × Int32 × mG)) => Rn N xs (d + 1) me239 6 [some (.ref 88), some (.int v.1), none, some (.int v.2.1), some (.int v.2.2.1), some (.int v.2.2.2.1), none, none] [] (SH, v.2.2.2.2) r) (C := (C_X12_comesTo_6 N xs d r (fun τ => r = (some (.int τ.1), (SH, τ.2))))) (fun v τ h1 h2 => k_X12_comesTo_B6 d h1 h2) (fun _ h => h) (fun _ h => h) _ _ hJ hC
def F_X12_comesTo (a1 : Int32) (a2 : Int32) (a3 : Int32) (s : mG) : Option (Int32 × mG) :=
  F_X12_comesTo_L6 a1 a3 (ci 0) a2 s
set_option maxRecDepth 4000 in
theorem k_X12_comesTo_r {N : Nat} {xs : Nat → Int32} (d : Nat) {r : Option Value × mH} {s : mG} {a1 : Int32} {a2 : Int32} {a3 : Int32} {τ : (Int32 × mG)} (hJ : F_X12_comesTo a1 a2 a3 s = some τ) (hC : (fun τ => r = (some (.int τ.1), (SH, τ.2))) τ) : Rn N xs (d + 1) me239 0 [some (.ref 88), some (.int a1), some (.int a2), some (.int a3), none, none, none, none] [] (SH, s) r := by
  unfold F_X12_comesTo at hJ
  refine Rn_sq srt239 0 4 (pc' := 6) (ls' := [some (.ref 88), some (.int a1), some (.int a2), some (.int a3), some (.int (ci 0)), some (.int a2), none, none]) (st' := []) (h1 := (SH, s)) rfl ?_
  exact Rn_weaken (a := [some (.ref 88), some (.int a1), none, some (.int a3), some (.int (ci 0)), some (.int a2), none, none]) (b := [some (.ref 88), some (.int a1), some (.int a2), some (.int a3), some (.int (ci 0)), some (.int a2), none, none]) (And.intro rfl (And.intro rfl (And.intro rfl (And.intro rfl (And.intro rfl trivial))))) rfl (k_X12_comesTo_L6 d hJ hC)
theorem k_X12_comesTo {N : Nat} {xs : Nat → Int32} (d : Nat) {s : mG} {a1 : Int32} {a2 : Int32} {a3 : Int32} {τ : (Int32 × mG)} (hJ : F_X12_comesTo a1 a2 a3 s = some τ) : Rn N xs (d + 1) me239 0 [some (.ref 88), some (.int a1), some (.int a2), some (.int a3), none, none, none, none] [] (SH, s) (some (.int τ.1), (SH, τ.2)) := k_X12_comesTo_r d hJ rfl
/-! IsHeInModel.isSo(I)Z -/
theorem srt240 : m_srt mc240 = true := by decide +kernel
def F_X12_isSo_52 (s : mG) : Option (Int32 × mG) :=
  some ((ci 1), s)
set_option maxRecDepth 4000 in
theorem k_X12_isSo_52 {N : Nat} {xs : Nat → Int32} (d : Nat) {r : Option Value × mH} {s : mG} {τ : (Int32 × mG)} (hJ : F_X12_isSo_52 s = some τ) (hC : (fun τ => r = (some (.int τ.1), (SH, τ.2))) τ) : Rn N xs (d + 2) me240 52 [none, none] [] (SH, s) r := by
  unfold F_X12_isSo_52 at hJ
  refine Rn_sq srt240 30 2 (pc' := 57) (ls' := [none, none]) (st' := [(.int (ci 1))]) (h1 := (SH, s)) rfl ?_
  rw [← Option.some.inj hJ] at hC
  have hC : r = (some (.int (ci 1)), (SH, s)) := hC
  subst hC
  exact Rn_ret srt240 33 rfl rfl (m_ret_b rfl (by decide))
def F_X12_isSo (a1 : Int32) (s : mG) : Option (Int32 × mG) :=
  if ((c16 1017) + a1) < 0 ∨ 1894 ≤ ((c16 1017) + a1).toNatClampNeg then none else
  if ((c16 1001) + a1) < 0 ∨ 1894 ≤ ((c16 1001) + a1).toNatClampNeg then none else
  if (s.1 89 ((c16 1017) + a1).toNatClampNeg) = (s.1 89 ((c16 1001) + a1).toNatClampNeg) then
    F_X12_isSo_52 s
  else
    if ((c16 1001) + a1) < 0 ∨ 1894 ≤ ((c16 1001) + a1).toNatClampNeg then none else
    if ((c16 1017) + a1) < 0 ∨ 1894 ≤ ((c16 1017) + a1).toNatClampNeg then none else
    b2 (F_X12_comesTo (ci 0) (s.1 89 ((c16 1001) + a1).toNatClampNeg) (s.1 89 ((c16 1017) + a1).toNatClampNeg) s) fun v8 s7 =>
    if v8 = (ci 1) then
      F_X12_isSo_52 s7
    else
      some ((ci 0), s7)
set_option maxRecDepth 4000 in
theorem k_X12_isSo_r {N : Nat} {xs : Nat → Int32} (d : Nat) {r : Option Value × mH} {s : mG} {a1 : Int32} {τ : (Int32 × mG)} (hJ : F_X12_isSo a1 s = some τ) (hC : (fun τ => r = (some (.int τ.1), (SH, τ.2))) τ) : Rn N xs (d + 2) me240 0 [some (.ref 88), some (.int a1)] [] (SH, s) r := by
  unfold F_X12_isSo at hJ
  refine Rn_sq srt240 0 5 (pc' := 9) (ls' := [some (.ref 88), some (.int a1)]) (st' := [(.int ((c16 1017) + a1)), (.ref 89)]) (h1 := (SH, s)) rfl ?_
  obtain ⟨h1, hJ⟩ := m_gn hJ
  refine Rn_ev srt240 5 rfl rfl rfl (op_ia sh89 h1 (k := ((c16 1017) + a1).toNatClampNeg) rfl) ?_
  refine Rn_sq srt240 6 5 (pc' := 19) (ls' := [some (.ref 88), some (.int a1)]) (st' := [(.int ((c16 1001) + a1)), (.ref 89), (.int (s.1 89 ((c16 1017) + a1).toNatClampNeg))]) (h1 := (SH, s)) rfl ?_
  obtain ⟨h2, hJ⟩ := m_gn hJ
  refine Rn_ev srt240 11 rfl rfl rfl (op_ia sh89 h2 (k := ((c16 1001) + a1).toNatClampNeg) rfl) ?_
  refine Rn_sq srt240 12 1 (pc' := (if (s.1 89 ((c16 1017) + a1).toNatClampNeg) = (s.1 89 ((c16 1001) + a1).toNatClampNeg) then 52 else 23)) (ls' := [some (.ref 88), some (.int a1)]) (st' := []) (h1 := (SH, s)) rfl (Rn_if (fun h3 => ?_) (fun h3 => ?_))
  · replace hJ := m_ifp h3 hJ
    exact Rn_weaken (a := [none, none]) (b := [some (.ref 88), some (.int a1)]) trivial rfl (k_X12_isSo_52 d hJ hC)
  · replace hJ := m_ifn h3 hJ
    refine Rn_sq srt240 13 7 (pc' := 34) (ls' := [some (.ref 88), some (.int a1)]) (st' := [(.int ((c16 1001) + a1)), (.ref 89), (.int (ci 0)), (.ref 88)]) (h1 := (SH, s)) rfl ?_
    obtain ⟨h4, hJ⟩ := m_gn hJ
    refine Rn_ev srt240 20 rfl rfl rfl (op_ia sh89 h4 (k := ((c16 1001) + a1).toNatClampNeg) rfl) ?_
    refine Rn_sq srt240 21 5 (pc' := 44) (ls' := [some (.ref 88), some (.int a1)]) (st' := [(.int ((c16 1017) + a1)), (.ref 89), (.int (s.1 89 ((c16 1001) + a1).toNatClampNeg)), (.int (ci 0)), (.ref 88)]) (h1 := (SH, s)) rfl ?_
    obtain ⟨h5, hJ⟩ := m_gn hJ
    refine Rn_ev srt240 26 rfl rfl rfl (op_ia sh89 h5 (k := ((c16 1017) + a1).toNatClampNeg) rfl) ?_
    obtain ⟨v8, s7, h6, hJ⟩ := m_b2 hJ
    refine Rn_call srt240 27 rfl rfl rfl ⟨Nat.le_of_ble_eq_true rfl, Nat.le_of_ble_eq_true rfl, rfl, Nat.le_of_ble_eq_true rfl⟩ (k_X12_comesTo (d) h6) (show Rn N xs (d + 2) me240 48 [some (.ref 88), some (.int a1)] [(.int v8)] (SH, s7) r from ?_)
    refine Rn_sq srt240 28 2 (pc' := (if v8 = (ci 1) then 52 else 56)) (ls' := [some (.ref 88), some (.int a1)]) (st' := []) (h1 := (SH, s7)) rfl (Rn_if (fun h9 => ?_) (fun h9 => ?_))
    · replace hJ := m_ifp h9 hJ
      exact Rn_weaken (a := [none, none]) (b := [some (.ref 88), some (.int a1)]) trivial rfl (k_X12_isSo_52 d hJ hC)
    · replace hJ := m_ifn h9 hJ
      refine Rn_sq srt240 32 1 (pc' := 57) (ls' := [some (.ref 88), some (.int a1)]) (st' := [(.int (ci 0))]) (h1 := (SH, s7)) rfl ?_
      rw [← Option.some.inj hJ] at hC
      have hC : r = (some (.int (ci 0)), (SH, s7)) := hC
      subst hC
      exact Rn_ret srt240 33 rfl rfl (m_ret_b rfl (by decide))
theorem k_X12_isSo {N : Nat} {xs : Nat → Int32} (d : Nat) {s : mG} {a1 : Int32} {τ : (Int32 × mG)} (hJ : F_X12_isSo a1 s = some τ) : Rn N xs (d + 2) me240 0 [some (.ref 88), some (.int a1)] [] (SH, s) (some (.int τ.1), (SH, τ.2)) := k_X12_isSo_r d hJ rfl
/-! IsHeInModel.isOnBoard(I)Z -/
theorem srt241 : m_srt mc241 = true := by decide +kernel
def F_X12_isOnBoard (s : mG) (a1 : Int32) : Option (Int32) :=
  if ((c8 15) + a1) < 0 ∨ 1894 ≤ ((c8 15) + a1).toNatClampNeg then none else
  if (s.1 89 ((c8 15) + a1).toNatClampNeg) = (ci (-1)) then
    some (ci 0)
  else
    some (ci 1)
set_option maxRecDepth 4000 in
theorem k_X12_isOnBoard_r {N : Nat} {xs : Nat → Int32} (d : Nat) {r : Option Value × mH} {s : mG} {a1 : Int32} {τ : (Int32)} (hJ : F_X12_isOnBoard s a1 = some τ) (hC : (fun τ => r = (some (.int τ), (SH, s))) τ) : Rn N xs (d + 0) me241 0 [some (.ref 88), some (.int a1)] [] (SH, s) r := by
  unfold F_X12_isOnBoard at hJ
  refine Rn_sq srt241 0 5 (pc' := 8) (ls' := [some (.ref 88), some (.int a1)]) (st' := [(.int ((c8 15) + a1)), (.ref 89)]) (h1 := (SH, s)) rfl ?_
  obtain ⟨h1, hJ⟩ := m_gn hJ
  refine Rn_ev srt241 5 rfl rfl rfl (op_ia sh89 h1 (k := ((c8 15) + a1).toNatClampNeg) rfl) ?_
  refine Rn_sq srt241 6 2 (pc' := (if (s.1 89 ((c8 15) + a1).toNatClampNeg) = (ci (-1)) then 17 else 13)) (ls' := [some (.ref 88), some (.int a1)]) (st' := []) (h1 := (SH, s)) rfl (Rn_if (fun h2 => ?_) (fun h2 => ?_))
  · replace hJ := m_ifp h2 hJ
    refine Rn_sq srt241 10 1 (pc' := 18) (ls' := [some (.ref 88), some (.int a1)]) (st' := [(.int (ci 0))]) (h1 := (SH, s)) rfl ?_
    rw [← Option.some.inj hJ] at hC
    have hC : r = (some (.int (ci 0)), (SH, s)) := hC
    subst hC
    exact Rn_ret srt241 11 rfl rfl (m_ret_b rfl (by decide))
  · replace hJ := m_ifn h2 hJ
    refine Rn_sq srt241 8 2 (pc' := 18) (ls' := [some (.ref 88), some (.int a1)]) (st' := [(.int (ci 1))]) (h1 := (SH, s)) rfl ?_
    rw [← Option.some.inj hJ] at hC
    have hC : r = (some (.int (ci 1)), (SH, s)) := hC
    subst hC
    exact Rn_ret srt241 11 rfl rfl (m_ret_b rfl (by decide))
theorem k_X12_isOnBoard {N : Nat} {xs : Nat → Int32} (d : Nat) {s : mG} {a1 : Int32} {τ : (Int32)} (hJ : F_X12_isOnBoard s a1 = some τ) : Rn N xs (d + 0) me241 0 [some (.ref 88), some (.int a1)] [] (SH, s) (some (.int τ), (SH, s)) := k_X12_isOnBoard_r d hJ rfl
/-! IsHeInModel.without(II)I -/
theorem srt242 : m_srt mc242 = true := by decide +kernel
def F_X12_without (s : mG) (a1 : Int32) (a2 : Int32) : Option (Int32) :=
  if a1 = ci 20 then
    some (c8 100)
  else
  if a1 = ci 21 then
    some (c16 200)
  else
  if a1 = ci 22 then
    some (c16 300)
  else
  if a1 = ci 23 then
    some (ci 0)
  else
  if a1 = ci 24 then
    some (c16 500)
  else
  b1 (F_X12_isOnBoard s a2) fun v7 =>
  if v7 = 0 then
    some (c16 900)
  else
    some (c8 100)
set_option maxRecDepth 4000 in
theorem k_X12_without_r {N : Nat} {xs : Nat → Int32} (d : Nat) {r : Option Value × mH} {s : mG} {a1 : Int32} {a2 : Int32} {τ : (Int32)} (hJ : F_X12_without s a1 a2 = some τ) (hC : (fun τ => r = (some (.int τ), (SH, s))) τ) : Rn N xs (d + 1) me242 0 [some (.ref 88), some (.int a1), some (.int a2)] [] (SH, s) r := by
  unfold F_X12_without at hJ
  refine Rn_sq srt242 0 1 (pc' := 1) (ls' := [some (.ref 88), some (.int a1), some (.int a2)]) (st' := [(.int a1)]) (h1 := (SH, s)) rfl ?_
  by_cases h1 : a1 = ci 20
  · replace hJ := m_ifp h1 hJ
    refine Rn_ev srt242 1 rfl rfl rfl (op_sw h1 (show _ = some (36, _) from rfl)) ?_
    refine Rn_sq srt242 2 1 (pc' := 38) (ls' := [some (.ref 88), some (.int a1), some (.int a2)]) (st' := [(.int (c8 100))]) (h1 := (SH, s)) rfl ?_
    rw [← Option.some.inj hJ] at hC
    have hC : r = (some (.int (c8 100)), (SH, s)) := hC
    subst hC
    exact Rn_ret srt242 3 rfl rfl rfl
  replace hJ := m_ifn h1 hJ
  by_cases h2 : a1 = ci 21
  · replace hJ := m_ifp h2 hJ
    refine Rn_ev srt242 1 rfl rfl rfl (op_sw h2 (show _ = some (39, _) from rfl)) ?_
    refine Rn_sq srt242 4 1 (pc' := 42) (ls' := [some (.ref 88), some (.int a1), some (.int a2)]) (st' := [(.int (c16 200))]) (h1 := (SH, s)) rfl ?_
    rw [← Option.some.inj hJ] at hC
    have hC : r = (some (.int (c16 200)), (SH, s)) := hC
    subst hC
    exact Rn_ret srt242 5 rfl rfl rfl
  replace hJ := m_ifn h2 hJ
  by_cases h3 : a1 = ci 22
  · replace hJ := m_ifp h3 hJ
    refine Rn_ev srt242 1 rfl rfl rfl (op_sw h3 (show _ = some (43, _) from rfl)) ?_
    refine Rn_sq srt242 6 1 (pc' := 46) (ls' := [some (.ref 88), some (.int a1), some (.int a2)]) (st' := [(.int (c16 300))]) (h1 := (SH, s)) rfl ?_
    rw [← Option.some.inj hJ] at hC
    have hC : r = (some (.int (c16 300)), (SH, s)) := hC
    subst hC
    exact Rn_ret srt242 7 rfl rfl rfl
  replace hJ := m_ifn h3 hJ
  by_cases h4 : a1 = ci 23
  · replace hJ := m_ifp h4 hJ
    refine Rn_ev srt242 1 rfl rfl rfl (op_sw h4 (show _ = some (47, _) from rfl)) ?_
    refine Rn_sq srt242 8 1 (pc' := 48) (ls' := [some (.ref 88), some (.int a1), some (.int a2)]) (st' := [(.int (ci 0))]) (h1 := (SH, s)) rfl ?_
    rw [← Option.some.inj hJ] at hC
    have hC : r = (some (.int (ci 0)), (SH, s)) := hC
    subst hC
    exact Rn_ret srt242 9 rfl rfl rfl
  replace hJ := m_ifn h4 hJ
  by_cases h5 : a1 = ci 24
  · replace hJ := m_ifp h5 hJ
    refine Rn_ev srt242 1 rfl rfl rfl (op_sw h5 (show _ = some (49, _) from rfl)) ?_
    refine Rn_sq srt242 10 1 (pc' := 52) (ls' := [some (.ref 88), some (.int a1), some (.int a2)]) (st' := [(.int (c16 500))]) (h1 := (SH, s)) rfl ?_
    rw [← Option.some.inj hJ] at hC
    have hC : r = (some (.int (c16 500)), (SH, s)) := hC
    subst hC
    exact Rn_ret srt242 11 rfl rfl rfl
  replace hJ := m_ifn h5 hJ
  refine Rn_ev srt242 1 rfl rfl rfl (op_swd (tg := 53) (sw_out (by decide) (by decide) (by intro v hv1 hv2; rcases (show v = 20 ∨ v = 21 ∨ v = 22 ∨ v = 23 ∨ v = 24 by omega) with rfl | rfl | rfl | rfl | rfl <;> assumption)) rfl) ?_
  refine Rn_sq srt242 12 2 (pc' := 55) (ls' := [some (.ref 88), some (.int a1), some (.int a2)]) (st' := [(.int a2), (.ref 88)]) (h1 := (SH, s)) rfl ?_
  obtain ⟨v7, h6, hJ⟩ := m_b1 hJ
  refine Rn_call srt242 14 rfl rfl rfl ⟨Nat.le_of_ble_eq_true rfl, Nat.le_of_ble_eq_true rfl, rfl, Nat.le_of_ble_eq_true rfl⟩ (k_X12_isOnBoard (d) h6) (show Rn N xs (d + 1) me242 58 [some (.ref 88), some (.int a1), some (.int a2)] [(.int v7)] (SH, s) r from ?_)
  refine Rn_sq srt242 15 1 (pc' := (if v7 = 0 then 66 else 61)) (ls' := [some (.ref 88), some (.int a1), some (.int a2)]) (st' := []) (h1 := (SH, s)) rfl (Rn_if (fun h8 => ?_) (fun h8 => ?_))
  · replace hJ := m_ifp h8 hJ
    refine Rn_sq srt242 18 1 (pc' := 69) (ls' := [some (.ref 88), some (.int a1), some (.int a2)]) (st' := [(.int (c16 900))]) (h1 := (SH, s)) rfl ?_
    rw [← Option.some.inj hJ] at hC
    have hC : r = (some (.int (c16 900)), (SH, s)) := hC
    subst hC
    exact Rn_ret srt242 19 rfl rfl rfl
  · replace hJ := m_ifn h8 hJ
    refine Rn_sq srt242 16 2 (pc' := 69) (ls' := [some (.ref 88), some (.int a1), some (.int a2)]) (st' := [(.int (c8 100))]) (h1 := (SH, s)) rfl ?_
    rw [← Option.some.inj hJ] at hC
    have hC : r = (some (.int (c8 100)), (SH, s)) := hC
    subst hC
    exact Rn_ret srt242 19 rfl rfl rfl
theorem k_X12_without {N : Nat} {xs : Nat → Int32} (d : Nat) {s : mG} {a1 : Int32} {a2 : Int32} {τ : (Int32)} (hJ : F_X12_without s a1 a2 = some τ) : Rn N xs (d + 1) me242 0 [some (.ref 88), some (.int a1), some (.int a2)] [] (SH, s) (some (.int τ), (SH, s)) := k_X12_without_r d hJ rfl
/-! IsHeInModel.saysIn(IIIII)I -/
theorem srt243 : m_srt mc243 = true := by decide +kernel
def C_X12_saysIn_113 (N : Nat) (xs : Nat → Int32) (d : Nat) (r : Option Value × mH) (C : (Int32 × mG) → Prop) : ((Int32 × Int32 × Int32 × mG) ⊕ (Int32 × mG)) → Prop
  | .inl v => Rn N xs (d + 3) me243 113 [some (.ref 88), some (.int v.1), some (.int v.2.1), none, none, none, some (.int v.2.2.1)] [] (SH, v.2.2.2) r
  | .inr a => C a
def F_X12_saysIn_187 (x1 : Int32) (x2 : Int32) (x6 : Int32) (s : mG) : Option ((Int32 × Int32 × Int32 × mG) ⊕ (Int32 × mG)) :=
  some (Sum.inl (x1, x2, (x6 + ci 1), s))
set_option maxRecDepth 4000 in
theorem k_X12_saysIn_187 {N : Nat} {xs : Nat → Int32} (d : Nat) {r : Option Value × mH} {s : mG} {x1 : Int32} {x2 : Int32} {x6 : Int32} {τ : ((Int32 × Int32 × Int32 × mG) ⊕ (Int32 × mG))} (hJ : F_X12_saysIn_187 x1 x2 x6 s = some τ) (hC : (C_X12_saysIn_113 N xs d r (fun τ => r = (some (.int τ.1), (SH, τ.2)))) τ) : Rn N xs (d + 3) me243 187 [some (.ref 88), some (.int x1), some (.int x2), none, none, none, some (.int x6)] [] (SH, s) r := by
  unfold F_X12_saysIn_187 at hJ
  refine Rn_sq srt243 108 2 (pc' := 113) (ls' := [some (.ref 88), some (.int x1), some (.int x2), none, none, none, some (.int (x6 + ci 1))]) (st' := []) (h1 := (SH, s)) rfl ?_
  rw [← Option.some.inj hJ] at hC
  exact hC
def F_X12_saysIn_B113 (x1 : Int32) (x2 : Int32) (x6 : Int32) (s : mG) : Option ((Int32 × Int32 × Int32 × mG) ⊕ (Int32 × mG)) :=
  if (s.1 89 117) ≤ x6 then
    b1 (F_X12_without s x1 x2) fun v18 =>
    some (Sum.inr (v18, s))
  else
    if ((c16 1033) + x6) < 0 ∨ 1894 ≤ ((c16 1033) + x6).toNatClampNeg then none else
    if (s.1 89 ((c16 1033) + x6).toNatClampNeg) = x1 then
      b2 (F_X12_isSo x6 s) fun v23 s22 =>
      if v23 = 0 then
        F_X12_saysIn_187 x1 x2 x6 s22
      else
        if ((c16 985) + x6) < 0 ∨ 1894 ≤ ((c16 985) + x6).toNatClampNeg then none else
        if ((c16 1001) + x6) < 0 ∨ 1894 ≤ ((c16 1001) + x6).toNatClampNeg then none else
        b2 (F_X12_comesTo (ci 0) (s22.1 89 ((c16 985) + x6).toNatClampNeg) (s22.1 89 ((c16 1001) + x6).toNatClampNeg) s22) fun v29 s28 =>
        b1 (F_X12_lesser s28 (c16 1000) v29) fun v31 =>
        b1 (F_X12_greater s28 (ci 0) v31) fun v33 =>
        some (Sum.inr (v33, s28))
    else
      F_X12_saysIn_187 x1 x2 x6 s
set_option maxRecDepth 4000 in
theorem k_X12_saysIn_B113 {N : Nat} {xs : Nat → Int32} (d : Nat) {r : Option Value × mH} {s : mG} {x1 : Int32} {x2 : Int32} {x6 : Int32} {τ : ((Int32 × Int32 × Int32 × mG) ⊕ (Int32 × mG))} (hJ : F_X12_saysIn_B113 x1 x2 x6 s = some τ) (hC : (C_X12_saysIn_113 N xs d r (fun τ => r = (some (.int τ.1), (SH, τ.2)))) τ) : Rn N xs (d + 3) me243 113 [some (.ref 88), some (.int x1), some (.int x2), none, none, none, some (.int x6)] [] (SH, s) r := by
  unfold F_X12_saysIn_B113 at hJ
  refine Rn_sq srt243 70 4 (pc' := 121) (ls' := [some (.ref 88), some (.int x1), some (.int x2), none, none, none, some (.int x6)]) (st' := [(.int (c8 117)), (.ref 89), (.int x6)]) (h1 := (SH, s)) rfl ?_
  refine Rn_ev srt243 74 rfl rfl rfl (op_ia sh89 (by decide) (k := 117) rfl) ?_
  refine Rn_sq srt243 75 1 (pc' := (if (s.1 89 117) ≤ x6 then 193 else 125)) (ls' := [some (.ref 88), some (.int x1), some (.int x2), none, none, none, some (.int x6)]) (st' := []) (h1 := (SH, s)) rfl (Rn_if (fun h16 => ?_) (fun h16 => ?_))
  · replace hJ := m_ifp h16 hJ
    refine Rn_sq srt243 110 3 (pc' := 196) (ls' := [some (.ref 88), some (.int x1), some (.int x2), none, none, none, some (.int x6)]) (st' := [(.int x2), (.int x1), (.ref 88)]) (h1 := (SH, s)) rfl ?_
    obtain ⟨v18, h17, hJ⟩ := m_b1 hJ
    refine Rn_call srt243 113 rfl rfl rfl ⟨Nat.le_of_ble_eq_true rfl, Nat.le_of_ble_eq_true rfl, rfl, Nat.le_of_ble_eq_true rfl⟩ (k_X12_without (d + 1) h17) (show Rn N xs (d + 3) me243 199 [some (.ref 88), some (.int x1), some (.int x2), none, none, none, some (.int x6)] [(.int v18)] (SH, s) r from ?_)
    rw [← Option.some.inj hJ] at hC
    have hC : r = (some (.int v18), (SH, s)) := hC
    subst hC
    exact Rn_ret srt243 114 rfl rfl rfl
  · replace hJ := m_ifn h16 hJ
    refine Rn_sq srt243 76 5 (pc' := 135) (ls' := [some (.ref 88), some (.int x1), some (.int x2), none, none, none, some (.int x6)]) (st' := [(.int ((c16 1033) + x6)), (.ref 89)]) (h1 := (SH, s)) rfl ?_
    obtain ⟨h19, hJ⟩ := m_gn hJ
    refine Rn_ev srt243 81 rfl rfl rfl (op_ia sh89 h19 (k := ((c16 1033) + x6).toNatClampNeg) rfl) ?_
    refine Rn_sq srt243 82 2 (pc' := (if (s.1 89 ((c16 1033) + x6).toNatClampNeg) = x1 then 140 else 187)) (ls' := [some (.ref 88), some (.int x1), some (.int x2), none, none, none, some (.int x6)]) (st' := []) (h1 := (SH, s)) rfl (Rn_if (fun h20 => ?_) (fun h20 => ?_))
    · replace hJ := m_ifp h20 hJ
      refine Rn_sq srt243 84 2 (pc' := 143) (ls' := [some (.ref 88), some (.int x1), some (.int x2), none, none, none, some (.int x6)]) (st' := [(.int x6), (.ref 88)]) (h1 := (SH, s)) rfl ?_
      obtain ⟨v23, s22, h21, hJ⟩ := m_b2 hJ
      refine Rn_call srt243 86 rfl rfl rfl ⟨Nat.le_of_ble_eq_true rfl, Nat.le_of_ble_eq_true rfl, rfl, Nat.le_of_ble_eq_true rfl⟩ (k_X12_isSo (d) h21) (show Rn N xs (d + 3) me243 146 [some (.ref 88), some (.int x1), some (.int x2), none, none, none, some (.int x6)] [(.int v23)] (SH, s22) r from ?_)
      refine Rn_sq srt243 87 1 (pc' := (if v23 = 0 then 187 else 149)) (ls' := [some (.ref 88), some (.int x1), some (.int x2), none, none, none, some (.int x6)]) (st' := []) (h1 := (SH, s22)) rfl (Rn_if (fun h24 => ?_) (fun h24 => ?_))
      · replace hJ := m_ifp h24 hJ
        exact (k_X12_saysIn_187 d hJ hC)
      · replace hJ := m_ifn h24 hJ
        refine Rn_sq srt243 88 9 (pc' := 165) (ls' := [some (.ref 88), some (.int x1), some (.int x2), none, none, none, some (.int x6)]) (st' := [(.int ((c16 985) + x6)), (.ref 89), (.int (ci 0)), (.ref 88), (.int (c16 1000)), (.int (ci 0))]) (h1 := (SH, s22)) rfl ?_
        obtain ⟨h25, hJ⟩ := m_gn hJ
        refine Rn_ev srt243 97 rfl rfl rfl (op_ia sh89 h25 (k := ((c16 985) + x6).toNatClampNeg) rfl) ?_
        refine Rn_sq srt243 98 5 (pc' := 176) (ls' := [some (.ref 88), some (.int x1), some (.int x2), none, none, none, some (.int x6)]) (st' := [(.int ((c16 1001) + x6)), (.ref 89), (.int (s22.1 89 ((c16 985) + x6).toNatClampNeg)), (.int (ci 0)), (.ref 88), (.int (c16 1000)), (.int (ci 0))]) (h1 := (SH, s22)) rfl ?_
        obtain ⟨h26, hJ⟩ := m_gn hJ
        refine Rn_ev srt243 103 rfl rfl rfl (op_ia sh89 h26 (k := ((c16 1001) + x6).toNatClampNeg) rfl) ?_
        obtain ⟨v29, s28, h27, hJ⟩ := m_b2 hJ
        refine Rn_call srt243 104 rfl rfl rfl ⟨Nat.le_of_ble_eq_true rfl, Nat.le_of_ble_eq_true rfl, rfl, Nat.le_of_ble_eq_true rfl⟩ (k_X12_comesTo (d + 1) h27) (show Rn N xs (d + 3) me243 180 [some (.ref 88), some (.int x1), some (.int x2), none, none, none, some (.int x6)] [(.int v29), (.int (c16 1000)), (.int (ci 0))] (SH, s28) r from ?_)
        obtain ⟨v31, h30, hJ⟩ := m_b1 hJ
        refine Rn_call srt243 105 rfl rfl rfl ⟨Nat.le_of_ble_eq_true rfl, Nat.le_of_ble_eq_true rfl, rfl, Nat.le_of_ble_eq_true rfl⟩ (k_X12_lesser (d + 2) h30) (show Rn N xs (d + 3) me243 183 [some (.ref 88), some (.int x1), some (.int x2), none, none, none, some (.int x6)] [(.int v31), (.int (ci 0))] (SH, s28) r from ?_)
        obtain ⟨v33, h32, hJ⟩ := m_b1 hJ
        refine Rn_call srt243 106 rfl rfl rfl ⟨Nat.le_of_ble_eq_true rfl, Nat.le_of_ble_eq_true rfl, rfl, Nat.le_of_ble_eq_true rfl⟩ (k_X12_greater (d + 2) h32) (show Rn N xs (d + 3) me243 186 [some (.ref 88), some (.int x1), some (.int x2), none, none, none, some (.int x6)] [(.int v33)] (SH, s28) r from ?_)
        rw [← Option.some.inj hJ] at hC
        have hC : r = (some (.int v33), (SH, s28)) := hC
        subst hC
        exact Rn_ret srt243 107 rfl rfl rfl
    · replace hJ := m_ifn h20 hJ
      exact (k_X12_saysIn_187 d hJ hC)
def F_X12_saysIn_L113 (x1 : Int32) (x2 : Int32) (x6 : Int32) (s : mG) : Option (Int32 × mG) := whl (fun (v : (Int32 × Int32 × Int32 × mG)) => F_X12_saysIn_B113 v.1 v.2.1 v.2.2.1 v.2.2.2) (x1, x2, x6, s)
theorem k_X12_saysIn_L113 {N : Nat} {xs : Nat → Int32} (d : Nat) {r : Option Value × mH} {s : mG} {x1 : Int32} {x2 : Int32} {x6 : Int32} {τ : (Int32 × mG)} (hJ : F_X12_saysIn_L113 x1 x2 x6 s = some τ) (hC : (fun τ => r = (some (.int τ.1), (SH, τ.2))) τ) : Rn N xs (d + 3) me243 113 [some (.ref 88), some (.int x1), some (.int x2), none, none, none, some (.int x6)] [] (SH, s) r :=
  whl_link (P := fun (v : (Int32 × Int32 × Int32 × mG)) => Rn N xs (d + 3) me243 113 [some (.ref 88), some (.int v.1), some (.int v.2.1), none, none, none, some (.int v.2.2.1)] [] (SH, v.2.2.2) r) (C := (C_X12_saysIn_113 N xs d r (fun τ => r = (some (.int τ.1), (SH, τ.2))))) (fun v τ h1 h2 => k_X12_saysIn_B113 d h1 h2) (fun _ h => h) (fun _ h => h) _ _ hJ hC
def F_X12_saysIn_100 (x1 : Int32) (x2 : Int32) (x5 : Int32) (y1 : Int32) (y2 : Int32) (s : mG) : Option (Int32 × mG) :=
  if y1 < 0 ∨ 10 ≤ y1.toNatClampNeg then none else
  let s14 : mG := (mu s.1 97 y1.toNatClampNeg y2, s.2)
  let s15 : mG := (mu s14.1 97 9 x5, s14.2)
  F_X12_saysIn_L113 x1 x2 (ci 0) s15
set_option maxRecDepth 4000 in
theorem k_X12_saysIn_100 {N : Nat} {xs : Nat → Int32} (d : Nat) {r : Option Value × mH} {s : mG} {x1 : Int32} {x2 : Int32} {x5 : Int32} {y1 : Int32} {y2 : Int32} {τ : (Int32 × mG)} (hJ : F_X12_saysIn_100 x1 x2 x5 y1 y2 s = some τ) (hC : (fun τ => r = (some (.int τ.1), (SH, τ.2))) τ) : Rn N xs (d + 3) me243 100 [some (.ref 88), some (.int x1), some (.int x2), none, none, some (.int x5), none] [(.int y2), (.int y1), (.ref 97)] (SH, s) r := by
  unfold F_X12_saysIn_100 at hJ
  obtain ⟨h13, hJ⟩ := m_gn hJ
  extract_lets +onlyGivenNames s14 at hJ
  refine Rn_ev srt243 62 rfl rfl rfl (op_ias sh97 h13 (k := y1.toNatClampNeg) rfl) ?_
  refine Rn_sq srt243 63 4 (pc' := 109) (ls' := [some (.ref 88), some (.int x1), some (.int x2), none, none, some (.int x5), none]) (st' := [(.int x5), (.int (c8 9)), (.ref 97)]) (h1 := (SH, s14)) rfl ?_
  extract_lets +onlyGivenNames s15 at hJ
  refine Rn_ev srt243 67 rfl rfl rfl (op_ias sh97 (by decide) (k := 9) rfl) ?_
  refine Rn_sq srt243 68 2 (pc' := 113) (ls' := [some (.ref 88), some (.int x1), some (.int x2), none, none, some (.int x5), some (.int (ci 0))]) (st' := []) (h1 := (SH, s15)) rfl ?_
  exact Rn_weaken (a := [some (.ref 88), some (.int x1), some (.int x2), none, none, none, some (.int (ci 0))]) (b := [some (.ref 88), some (.int x1), some (.int x2), none, none, some (.int x5), some (.int (ci 0))]) (And.intro rfl (And.intro rfl (And.intro rfl (And.intro rfl trivial)))) rfl (k_X12_saysIn_L113 d hJ hC)
def F_X12_saysIn (a1 : Int32) (a2 : Int32) (a3 : Int32) (a4 : Int32) (a5 : Int32) (s : mG) : Option (Int32 × mG) :=
  let s1 : mG := (mu s.1 97 1 a2, s.2)
  if ((c8 119) + a2) < 0 ∨ 1894 ≤ ((c8 119) + a2).toNatClampNeg then none else
  let s3 : mG := (mu s1.1 97 2 (s1.1 89 ((c8 119) + a2).toNatClampNeg), s1.2)
  if ((c16 131) + a2) < 0 ∨ 1894 ≤ ((c16 131) + a2).toNatClampNeg then none else
  let s5 : mG := (mu s3.1 97 3 (s3.1 89 ((c16 131) + a2).toNatClampNeg), s3.2)
  let s6 : mG := (mu s5.1 97 4 (rm a3 (c8 24)), s5.2)
  let s7 : mG := (mu s6.1 97 5 (a3 / (c8 24)), s6.2)
  let s8 : mG := (mu s7.1 97 6 a4, s7.2)
  let s9 : mG := (mu s8.1 97 7 (s8.1 89 114), s8.2)
  b1 (F_X12_isOnBoard s9 a2) fun v11 =>
  if v11 = 0 then
    F_X12_saysIn_100 a1 a2 a5 (c8 8) (ci 0) s9
  else
    F_X12_saysIn_100 a1 a2 a5 (c8 8) (ci 1) s9
set_option maxRecDepth 4000 in
theorem k_X12_saysIn_r {N : Nat} {xs : Nat → Int32} (d : Nat) {r : Option Value × mH} {s : mG} {a1 : Int32} {a2 : Int32} {a3 : Int32} {a4 : Int32} {a5 : Int32} {τ : (Int32 × mG)} (hJ : F_X12_saysIn a1 a2 a3 a4 a5 s = some τ) (hC : (fun τ => r = (some (.int τ.1), (SH, τ.2))) τ) : Rn N xs (d + 3) me243 0 [some (.ref 88), some (.int a1), some (.int a2), some (.int a3), some (.int a4), some (.int a5), none] [] (SH, s) r := by
  unfold F_X12_saysIn at hJ
  refine Rn_sq srt243 0 4 (pc' := 6) (ls' := [some (.ref 88), some (.int a1), some (.int a2), some (.int a3), some (.int a4), some (.int a5), none]) (st' := [(.int a2), (.int (ci 1)), (.ref 97)]) (h1 := (SH, s)) rfl ?_
  extract_lets +onlyGivenNames s1 at hJ
  refine Rn_ev srt243 4 rfl rfl rfl (op_ias sh97 (by decide) (k := 1) rfl) ?_
  refine Rn_sq srt243 5 8 (pc' := 20) (ls' := [some (.ref 88), some (.int a1), some (.int a2), some (.int a3), some (.int a4), some (.int a5), none]) (st' := [(.int ((c8 119) + a2)), (.ref 89), (.int (ci 2)), (.ref 97)]) (h1 := (SH, s1)) rfl ?_
  obtain ⟨h2, hJ⟩ := m_gn hJ
  refine Rn_ev srt243 13 rfl rfl rfl (op_ia sh89 h2 (k := ((c8 119) + a2).toNatClampNeg) rfl) ?_
  extract_lets +onlyGivenNames s3 at hJ
  refine Rn_ev srt243 14 rfl rfl rfl (op_ias sh97 (by decide) (k := 2) rfl) ?_
  refine Rn_sq srt243 15 8 (pc' := 36) (ls' := [some (.ref 88), some (.int a1), some (.int a2), some (.int a3), some (.int a4), some (.int a5), none]) (st' := [(.int ((c16 131) + a2)), (.ref 89), (.int (ci 3)), (.ref 97)]) (h1 := (SH, s3)) rfl ?_
  obtain ⟨h4, hJ⟩ := m_gn hJ
  refine Rn_ev srt243 23 rfl rfl rfl (op_ia sh89 h4 (k := ((c16 131) + a2).toNatClampNeg) rfl) ?_
  extract_lets +onlyGivenNames s5 at hJ
  refine Rn_ev srt243 24 rfl rfl rfl (op_ias sh97 (by decide) (k := 3) rfl) ?_
  refine Rn_sq srt243 25 5 (pc' := 46) (ls' := [some (.ref 88), some (.int a1), some (.int a2), some (.int a3), some (.int a4), some (.int a5), none]) (st' := [(.int (c8 24)), (.int a3), (.int (ci 4)), (.ref 97)]) (h1 := (SH, s5)) rfl ?_
  refine Rn_ev srt243 30 rfl rfl rfl (op_irem (by decide)) ?_
  extract_lets +onlyGivenNames s6 at hJ
  refine Rn_ev srt243 31 rfl rfl rfl (op_ias sh97 (by decide) (k := 4) rfl) ?_
  refine Rn_sq srt243 32 5 (pc' := 56) (ls' := [some (.ref 88), some (.int a1), some (.int a2), some (.int a3), some (.int a4), some (.int a5), none]) (st' := [(.int (c8 24)), (.int a3), (.int (ci 5)), (.ref 97)]) (h1 := (SH, s6)) rfl ?_
  refine Rn_ev srt243 37 rfl rfl rfl (op_idiv (by decide)) ?_
  extract_lets +onlyGivenNames s7 at hJ
  refine Rn_ev srt243 38 rfl rfl rfl (op_ias sh97 (by decide) (k := 5) rfl) ?_
  refine Rn_sq srt243 39 4 (pc' := 66) (ls' := [some (.ref 88), some (.int a1), some (.int a2), some (.int a3), some (.int a4), some (.int a5), none]) (st' := [(.int a4), (.int (c8 6)), (.ref 97)]) (h1 := (SH, s7)) rfl ?_
  extract_lets +onlyGivenNames s8 at hJ
  refine Rn_ev srt243 43 rfl rfl rfl (op_ias sh97 (by decide) (k := 6) rfl) ?_
  refine Rn_sq srt243 44 6 (pc' := 79) (ls' := [some (.ref 88), some (.int a1), some (.int a2), some (.int a3), some (.int a4), some (.int a5), none]) (st' := [(.int (c8 114)), (.ref 89), (.int (c8 7)), (.ref 97)]) (h1 := (SH, s8)) rfl ?_
  refine Rn_ev srt243 50 rfl rfl rfl (op_ia sh89 (by decide) (k := 114) rfl) ?_
  extract_lets +onlyGivenNames s9 at hJ
  refine Rn_ev srt243 51 rfl rfl rfl (op_ias sh97 (by decide) (k := 7) rfl) ?_
  refine Rn_sq srt243 52 5 (pc' := 89) (ls' := [some (.ref 88), some (.int a1), some (.int a2), some (.int a3), some (.int a4), some (.int a5), none]) (st' := [(.int a2), (.ref 88), (.int (c8 8)), (.ref 97)]) (h1 := (SH, s9)) rfl ?_
  obtain ⟨v11, h10, hJ⟩ := m_b1 hJ
  refine Rn_call srt243 57 rfl rfl rfl ⟨Nat.le_of_ble_eq_true rfl, Nat.le_of_ble_eq_true rfl, rfl, Nat.le_of_ble_eq_true rfl⟩ (k_X12_isOnBoard (d + 2) h10) (show Rn N xs (d + 3) me243 92 [some (.ref 88), some (.int a1), some (.int a2), some (.int a3), some (.int a4), some (.int a5), none] [(.int v11), (.int (c8 8)), (.ref 97)] (SH, s9) r from ?_)
  refine Rn_sq srt243 58 1 (pc' := (if v11 = 0 then 99 else 95)) (ls' := [some (.ref 88), some (.int a1), some (.int a2), some (.int a3), some (.int a4), some (.int a5), none]) (st' := [(.int (c8 8)), (.ref 97)]) (h1 := (SH, s9)) rfl (Rn_if (fun h12 => ?_) (fun h12 => ?_))
  · replace hJ := m_ifp h12 hJ
    refine Rn_sq srt243 61 1 (pc' := 100) (ls' := [some (.ref 88), some (.int a1), some (.int a2), some (.int a3), some (.int a4), some (.int a5), none]) (st' := [(.int (ci 0)), (.int (c8 8)), (.ref 97)]) (h1 := (SH, s9)) rfl ?_
    exact Rn_weaken (a := [some (.ref 88), some (.int a1), some (.int a2), none, none, some (.int a5), none]) (b := [some (.ref 88), some (.int a1), some (.int a2), some (.int a3), some (.int a4), some (.int a5), none]) (And.intro rfl (And.intro rfl (And.intro rfl (And.intro rfl trivial)))) rfl (k_X12_saysIn_100 d hJ hC)
  · replace hJ := m_ifn h12 hJ
    refine Rn_sq srt243 59 2 (pc' := 100) (ls' := [some (.ref 88), some (.int a1), some (.int a2), some (.int a3), some (.int a4), some (.int a5), none]) (st' := [(.int (ci 1)), (.int (c8 8)), (.ref 97)]) (h1 := (SH, s9)) rfl ?_
    exact Rn_weaken (a := [some (.ref 88), some (.int a1), some (.int a2), none, none, some (.int a5), none]) (b := [some (.ref 88), some (.int a1), some (.int a2), some (.int a3), some (.int a4), some (.int a5), none]) (And.intro rfl (And.intro rfl (And.intro rfl (And.intro rfl trivial)))) rfl (k_X12_saysIn_100 d hJ hC)
theorem k_X12_saysIn {N : Nat} {xs : Nat → Int32} (d : Nat) {s : mG} {a1 : Int32} {a2 : Int32} {a3 : Int32} {a4 : Int32} {a5 : Int32} {τ : (Int32 × mG)} (hJ : F_X12_saysIn a1 a2 a3 a4 a5 s = some τ) : Rn N xs (d + 3) me243 0 [some (.ref 88), some (.int a1), some (.int a2), some (.int a3), some (.int a4), some (.int a5), none] [] (SH, s) (some (.int τ.1), (SH, τ.2)) := k_X12_saysIn_r d hJ rfl
/-! IsHeInModel.saysNow(II)I -/
theorem srt244 : m_srt mc244 = true := by decide +kernel
def F_X12_saysNow (a1 : Int32) (a2 : Int32) (s : mG) : Option (Int32 × mG) :=
  if ((c8 27) + a2) < 0 ∨ 1894 ≤ ((c8 27) + a2).toNatClampNeg then none else
  b2 (F_X12_saysIn a1 a2 (s.1 89 0) (s.1 89 113) (s.1 89 ((c8 27) + a2).toNatClampNeg) s) fun v4 s3 =>
  some (v4, s3)
set_option maxRecDepth 4000 in
theorem k_X12_saysNow_r {N : Nat} {xs : Nat → Int32} (d : Nat) {r : Option Value × mH} {s : mG} {a1 : Int32} {a2 : Int32} {τ : (Int32 × mG)} (hJ : F_X12_saysNow a1 a2 s = some τ) (hC : (fun τ => r = (some (.int τ.1), (SH, τ.2))) τ) : Rn N xs (d + 4) me244 0 [some (.ref 88), some (.int a1), some (.int a2)] [] (SH, s) r := by
  unfold F_X12_saysNow at hJ
  refine Rn_sq srt244 0 6 (pc' := 8) (ls' := [some (.ref 88), some (.int a1), some (.int a2)]) (st' := [(.int (ci 0)), (.ref 89), (.int a2), (.int a1), (.ref 88)]) (h1 := (SH, s)) rfl ?_
  refine Rn_ev srt244 6 rfl rfl rfl (op_ia sh89 (by decide) (k := 0) rfl) ?_
  refine Rn_sq srt244 7 3 (pc' := 15) (ls' := [some (.ref 88), some (.int a1), some (.int a2)]) (st' := [(.int (c8 113)), (.ref 89), (.int (s.1 89 0)), (.int a2), (.int a1), (.ref 88)]) (h1 := (SH, s)) rfl ?_
  refine Rn_ev srt244 10 rfl rfl rfl (op_ia sh89 (by decide) (k := 113) rfl) ?_
  refine Rn_sq srt244 11 5 (pc' := 24) (ls' := [some (.ref 88), some (.int a1), some (.int a2)]) (st' := [(.int ((c8 27) + a2)), (.ref 89), (.int (s.1 89 113)), (.int (s.1 89 0)), (.int a2), (.int a1), (.ref 88)]) (h1 := (SH, s)) rfl ?_
  obtain ⟨h1, hJ⟩ := m_gn hJ
  refine Rn_ev srt244 16 rfl rfl rfl (op_ia sh89 h1 (k := ((c8 27) + a2).toNatClampNeg) rfl) ?_
  obtain ⟨v4, s3, h2, hJ⟩ := m_b2 hJ
  refine Rn_call srt244 17 rfl rfl rfl ⟨Nat.le_of_ble_eq_true rfl, Nat.le_of_ble_eq_true rfl, rfl, Nat.le_of_ble_eq_true rfl⟩ (k_X12_saysIn (d) h2) (show Rn N xs (d + 4) me244 28 [some (.ref 88), some (.int a1), some (.int a2)] [(.int v4)] (SH, s3) r from ?_)
  rw [← Option.some.inj hJ] at hC
  have hC : r = (some (.int v4), (SH, s3)) := hC
  subst hC
  exact Rn_ret srt244 18 rfl rfl rfl
theorem k_X12_saysNow {N : Nat} {xs : Nat → Int32} (d : Nat) {s : mG} {a1 : Int32} {a2 : Int32} {τ : (Int32 × mG)} (hJ : F_X12_saysNow a1 a2 s = some τ) : Rn N xs (d + 4) me244 0 [some (.ref 88), some (.int a1), some (.int a2)] [] (SH, s) (some (.int τ.1), (SH, τ.2)) := k_X12_saysNow_r d hJ rfl
/-! IsHeInModel.keeps()V -/
theorem srt245 : m_srt mc245 = true := by decide +kernel
def C_X12_keeps_11 (N : Nat) (xs : Nat → Int32) (d : Nat) (r : Option Value × mH) (C : (mG) → Prop) : ((Int32 × mG) ⊕ (mG)) → Prop
  | .inl v => Rn N xs (d + 0) me245 11 [some (.ref 88), some (.int v.1)] [] (SH, v.2) r
  | .inr a => C a
def C_X12_keeps_51 (N : Nat) (xs : Nat → Int32) (d : Nat) (r : Option Value × mH) (C : (mG) → Prop) : ((Int32 × mG) ⊕ (mG)) → Prop
  | .inl v => Rn N xs (d + 0) me245 51 [some (.ref 88), some (.int v.1)] [] (SH, v.2) r
  | .inr a => C a
def F_X12_keeps_B51 (x1 : Int32) (s : mG) : Option ((Int32 × mG) ⊕ (mG)) :=
  if (c8 112) ≤ x1 then
    let s5 : mG := (mu s.1 88 3 ((s.1 88 3) + (ci 1)), s.2)
    some (Sum.inr s5)
  else
    if x1 < 0 ∨ 1894 ≤ x1.toNatClampNeg then none else
    if (((c8 112) * (s.1 88 3)) + x1) < 0 ∨ 672 ≤ (((c8 112) * (s.1 88 3)) + x1).toNatClampNeg then none else
    let s8 : mG := (mu s.1 91 (((c8 112) * (s.1 88 3)) + x1).toNatClampNeg (s.1 89 x1.toNatClampNeg), s.2)
    some (Sum.inl ((x1 + ci 1), s8))
set_option maxRecDepth 4000 in
theorem k_X12_keeps_B51 {N : Nat} {xs : Nat → Int32} (d : Nat) {r : Option Value × mH} {s : mG} {x1 : Int32} {τ : ((Int32 × mG) ⊕ (mG))} (hJ : F_X12_keeps_B51 x1 s = some τ) (hC : (C_X12_keeps_51 N xs d r (fun τ => r = (none, (SH, τ)))) τ) : Rn N xs (d + 0) me245 51 [some (.ref 88), some (.int x1)] [] (SH, s) r := by
  unfold F_X12_keeps_B51 at hJ
  refine Rn_sq srt245 29 3 (pc' := (if (c8 112) ≤ x1 then 83 else 57)) (ls' := [some (.ref 88), some (.int x1)]) (st' := []) (h1 := (SH, s)) rfl (Rn_if (fun h4 => ?_) (fun h4 => ?_))
  · replace hJ := m_ifp h4 hJ
    extract_lets +onlyGivenNames s5 at hJ
    refine Rn_sq srt245 47 6 (pc' := 93) (ls' := [some (.ref 88), some (.int x1)]) (st' := []) (h1 := (SH, s5)) rfl ?_
    rw [← Option.some.inj hJ] at hC
    have hC : r = (none, (SH, s5)) := hC
    subst hC
    exact Rn_ret srt245 53 rfl rfl rfl
  · replace hJ := m_ifn h4 hJ
    refine Rn_sq srt245 32 11 (pc' := 75) (ls' := [some (.ref 88), some (.int x1)]) (st' := [(.int x1), (.ref 89), (.int (((c8 112) * (s.1 88 3)) + x1)), (.ref 91)]) (h1 := (SH, s)) rfl ?_
    obtain ⟨h6, hJ⟩ := m_gn hJ
    refine Rn_ev srt245 43 rfl rfl rfl (op_ia sh89 h6 (k := x1.toNatClampNeg) rfl) ?_
    obtain ⟨h7, hJ⟩ := m_gn hJ
    extract_lets +onlyGivenNames s8 at hJ
    refine Rn_ev srt245 44 rfl rfl rfl (op_ias sh91 h7 (k := (((c8 112) * (s.1 88 3)) + x1).toNatClampNeg) rfl) ?_
    refine Rn_sq srt245 45 2 (pc' := 51) (ls' := [some (.ref 88), some (.int (x1 + ci 1))]) (st' := []) (h1 := (SH, s8)) rfl ?_
    rw [← Option.some.inj hJ] at hC
    exact hC
def F_X12_keeps_L51 (x1 : Int32) (s : mG) : Option (mG) := whl (fun (v : (Int32 × mG)) => F_X12_keeps_B51 v.1 v.2) (x1, s)
theorem k_X12_keeps_L51 {N : Nat} {xs : Nat → Int32} (d : Nat) {r : Option Value × mH} {s : mG} {x1 : Int32} {τ : (mG)} (hJ : F_X12_keeps_L51 x1 s = some τ) (hC : (fun τ => r = (none, (SH, τ))) τ) : Rn N xs (d + 0) me245 51 [some (.ref 88), some (.int x1)] [] (SH, s) r :=
  whl_link (P := fun (v : (Int32 × mG)) => Rn N xs (d + 0) me245 51 [some (.ref 88), some (.int v.1)] [] (SH, v.2) r) (C := (C_X12_keeps_51 N xs d r (fun τ => r = (none, (SH, τ))))) (fun v τ h1 h2 => k_X12_keeps_B51 d h1 h2) (fun _ h => h) (fun _ h => h) _ _ hJ hC
def F_X12_keeps_49 (s : mG) : Option (mG) :=
  F_X12_keeps_L51 (ci 0) s
set_option maxRecDepth 4000 in
theorem k_X12_keeps_49 {N : Nat} {xs : Nat → Int32} (d : Nat) {r : Option Value × mH} {s : mG} {τ : (mG)} (hJ : F_X12_keeps_49 s = some τ) (hC : (fun τ => r = (none, (SH, τ))) τ) : Rn N xs (d + 0) me245 49 [some (.ref 88), none] [] (SH, s) r := by
  unfold F_X12_keeps_49 at hJ
  refine Rn_sq srt245 27 2 (pc' := 51) (ls' := [some (.ref 88), some (.int (ci 0))]) (st' := []) (h1 := (SH, s)) rfl ?_
  exact (k_X12_keeps_L51 d hJ hC)
def F_X12_keeps_B11 (x1 : Int32) (s : mG) : Option ((Int32 × mG) ⊕ (mG)) :=
  if (c16 560) ≤ x1 then
    let s3 : mG := (mu s.1 88 3 ((s.1 88 3) - (ci 1)), s.2)
    b1 (F_X12_keeps_49 s3) fun τ => some (Sum.inr τ)
  else
    if (x1 + (c8 112)) < 0 ∨ 672 ≤ (x1 + (c8 112)).toNatClampNeg then none else
    if x1 < 0 ∨ 672 ≤ x1.toNatClampNeg then none else
    let s11 : mG := (mu s.1 91 x1.toNatClampNeg (s.1 91 (x1 + (c8 112)).toNatClampNeg), s.2)
    some (Sum.inl ((x1 + ci 1), s11))
set_option maxRecDepth 4000 in
theorem k_X12_keeps_B11 {N : Nat} {xs : Nat → Int32} (d : Nat) {r : Option Value × mH} {s : mG} {x1 : Int32} {τ : ((Int32 × mG) ⊕ (mG))} (hJ : F_X12_keeps_B11 x1 s = some τ) (hC : (C_X12_keeps_11 N xs d r (fun τ => r = (none, (SH, τ)))) τ) : Rn N xs (d + 0) me245 11 [some (.ref 88), some (.int x1)] [] (SH, s) r := by
  unfold F_X12_keeps_B11 at hJ
  refine Rn_sq srt245 6 3 (pc' := (if (c16 560) ≤ x1 then 39 else 18)) (ls' := [some (.ref 88), some (.int x1)]) (st' := []) (h1 := (SH, s)) rfl (Rn_if (fun h2 => ?_) (fun h2 => ?_))
  · replace hJ := m_ifp h2 hJ
    extract_lets +onlyGivenNames s3 at hJ
    refine Rn_sq srt245 21 6 (pc' := 49) (ls' := [some (.ref 88), some (.int x1)]) (st' := []) (h1 := (SH, s3)) rfl ?_
    obtain ⟨τ1, hJ1, hJ⟩ := m_b1 hJ
    rw [← Option.some.inj hJ] at hC
    exact Rn_weaken (a := [some (.ref 88), none]) (b := [some (.ref 88), some (.int x1)]) (And.intro rfl trivial) rfl (k_X12_keeps_49 d hJ1 hC)
  · replace hJ := m_ifn h2 hJ
    refine Rn_sq srt245 9 8 (pc' := 31) (ls' := [some (.ref 88), some (.int x1)]) (st' := [(.int (x1 + (c8 112))), (.ref 91), (.int x1), (.ref 91)]) (h1 := (SH, s)) rfl ?_
    obtain ⟨h9, hJ⟩ := m_gn hJ
    refine Rn_ev srt245 17 rfl rfl rfl (op_ia sh91 h9 (k := (x1 + (c8 112)).toNatClampNeg) rfl) ?_
    obtain ⟨h10, hJ⟩ := m_gn hJ
    extract_lets +onlyGivenNames s11 at hJ
    refine Rn_ev srt245 18 rfl rfl rfl (op_ias sh91 h10 (k := x1.toNatClampNeg) rfl) ?_
    refine Rn_sq srt245 19 2 (pc' := 11) (ls' := [some (.ref 88), some (.int (x1 + ci 1))]) (st' := []) (h1 := (SH, s11)) rfl ?_
    rw [← Option.some.inj hJ] at hC
    exact hC
def F_X12_keeps_L11 (x1 : Int32) (s : mG) : Option (mG) := whl (fun (v : (Int32 × mG)) => F_X12_keeps_B11 v.1 v.2) (x1, s)
theorem k_X12_keeps_L11 {N : Nat} {xs : Nat → Int32} (d : Nat) {r : Option Value × mH} {s : mG} {x1 : Int32} {τ : (mG)} (hJ : F_X12_keeps_L11 x1 s = some τ) (hC : (fun τ => r = (none, (SH, τ))) τ) : Rn N xs (d + 0) me245 11 [some (.ref 88), some (.int x1)] [] (SH, s) r :=
  whl_link (P := fun (v : (Int32 × mG)) => Rn N xs (d + 0) me245 11 [some (.ref 88), some (.int v.1)] [] (SH, v.2) r) (C := (C_X12_keeps_11 N xs d r (fun τ => r = (none, (SH, τ))))) (fun v τ h1 h2 => k_X12_keeps_B11 d h1 h2) (fun _ h => h) (fun _ h => h) _ _ hJ hC
def F_X12_keeps (s : mG) : Option (mG) :=
  if (s.1 88 3) = (c8 6) then
    F_X12_keeps_L11 (ci 0) s
  else
    F_X12_keeps_49 s
set_option maxRecDepth 4000 in
theorem k_X12_keeps_r {N : Nat} {xs : Nat → Int32} (d : Nat) {r : Option Value × mH} {s : mG} {τ : (mG)} (hJ : F_X12_keeps s = some τ) (hC : (fun τ => r = (none, (SH, τ))) τ) : Rn N xs (d + 0) me245 0 [some (.ref 88), none] [] (SH, s) r := by
  unfold F_X12_keeps at hJ
  refine Rn_sq srt245 0 4 (pc' := (if (s.1 88 3) = (c8 6) then 9 else 49)) (ls' := [some (.ref 88), none]) (st' := []) (h1 := (SH, s)) rfl (Rn_if (fun h1 => ?_) (fun h1 => ?_))
  · replace hJ := m_ifp h1 hJ
    refine Rn_sq srt245 4 2 (pc' := 11) (ls' := [some (.ref 88), some (.int (ci 0))]) (st' := []) (h1 := (SH, s)) rfl ?_
    exact (k_X12_keeps_L11 d hJ hC)
  · replace hJ := m_ifn h1 hJ
    exact (k_X12_keeps_49 d hJ hC)
theorem k_X12_keeps {N : Nat} {xs : Nat → Int32} (d : Nat) {s : mG} {τ : (mG)} (hJ : F_X12_keeps s = some τ) : Rn N xs (d + 0) me245 0 [some (.ref 88), none] [] (SH, s) (none, (SH, τ)) := k_X12_keeps_r d hJ rfl
/-! IsHeInModel.undo()Z -/
theorem srt246 : m_srt mc246 = true := by decide +kernel
def C_X12_undo_21 (N : Nat) (xs : Nat → Int32) (d : Nat) (r : Option Value × mH) (C : (Int32 × mG) → Prop) : ((Int32 × mG) ⊕ (Int32 × mG)) → Prop
  | .inl v => Rn N xs (d + 0) me246 21 [some (.ref 88), some (.int v.1)] [] (SH, v.2) r
  | .inr a => C a
def F_X12_undo_B21 (x1 : Int32) (s : mG) : Option ((Int32 × mG) ⊕ (Int32 × mG)) :=
  if (c8 112) ≤ x1 then
    some (Sum.inr ((ci 1), s))
  else
    if (((c8 112) * (s.1 88 3)) + x1) < 0 ∨ 672 ≤ (((c8 112) * (s.1 88 3)) + x1).toNatClampNeg then none else
    if x1 < 0 ∨ 1894 ≤ x1.toNatClampNeg then none else
    let s6 : mG := (mu s.1 89 x1.toNatClampNeg (s.1 91 (((c8 112) * (s.1 88 3)) + x1).toNatClampNeg), s.2)
    some (Sum.inl ((x1 + ci 1), s6))
set_option maxRecDepth 4000 in
theorem k_X12_undo_B21 {N : Nat} {xs : Nat → Int32} (d : Nat) {r : Option Value × mH} {s : mG} {x1 : Int32} {τ : ((Int32 × mG) ⊕ (Int32 × mG))} (hJ : F_X12_undo_B21 x1 s = some τ) (hC : (C_X12_undo_21 N xs d r (fun τ => r = (some (.int τ.1), (SH, τ.2)))) τ) : Rn N xs (d + 0) me246 21 [some (.ref 88), some (.int x1)] [] (SH, s) r := by
  unfold F_X12_undo_B21 at hJ
  refine Rn_sq srt246 13 3 (pc' := (if (c8 112) ≤ x1 then 53 else 27)) (ls' := [some (.ref 88), some (.int x1)]) (st' := []) (h1 := (SH, s)) rfl (Rn_if (fun h3 => ?_) (fun h3 => ?_))
  · replace hJ := m_ifp h3 hJ
    refine Rn_sq srt246 31 1 (pc' := 54) (ls' := [some (.ref 88), some (.int x1)]) (st' := [(.int (ci 1))]) (h1 := (SH, s)) rfl ?_
    rw [← Option.some.inj hJ] at hC
    have hC : r = (some (.int (ci 1)), (SH, s)) := hC
    subst hC
    exact Rn_ret srt246 32 rfl rfl (m_ret_b rfl (by decide))
  · replace hJ := m_ifn h3 hJ
    refine Rn_sq srt246 16 11 (pc' := 45) (ls' := [some (.ref 88), some (.int x1)]) (st' := [(.int (((c8 112) * (s.1 88 3)) + x1)), (.ref 91), (.int x1), (.ref 89)]) (h1 := (SH, s)) rfl ?_
    obtain ⟨h4, hJ⟩ := m_gn hJ
    refine Rn_ev srt246 27 rfl rfl rfl (op_ia sh91 h4 (k := (((c8 112) * (s.1 88 3)) + x1).toNatClampNeg) rfl) ?_
    obtain ⟨h5, hJ⟩ := m_gn hJ
    extract_lets +onlyGivenNames s6 at hJ
    refine Rn_ev srt246 28 rfl rfl rfl (op_ias sh89 h5 (k := x1.toNatClampNeg) rfl) ?_
    refine Rn_sq srt246 29 2 (pc' := 21) (ls' := [some (.ref 88), some (.int (x1 + ci 1))]) (st' := []) (h1 := (SH, s6)) rfl ?_
    rw [← Option.some.inj hJ] at hC
    exact hC
def F_X12_undo_L21 (x1 : Int32) (s : mG) : Option (Int32 × mG) := whl (fun (v : (Int32 × mG)) => F_X12_undo_B21 v.1 v.2) (x1, s)
theorem k_X12_undo_L21 {N : Nat} {xs : Nat → Int32} (d : Nat) {r : Option Value × mH} {s : mG} {x1 : Int32} {τ : (Int32 × mG)} (hJ : F_X12_undo_L21 x1 s = some τ) (hC : (fun τ => r = (some (.int τ.1), (SH, τ.2))) τ) : Rn N xs (d + 0) me246 21 [some (.ref 88), some (.int x1)] [] (SH, s) r :=
  whl_link (P := fun (v : (Int32 × mG)) => Rn N xs (d + 0) me246 21 [some (.ref 88), some (.int v.1)] [] (SH, v.2) r) (C := (C_X12_undo_21 N xs d r (fun τ => r = (some (.int τ.1), (SH, τ.2))))) (fun v τ h1 h2 => k_X12_undo_B21 d h1 h2) (fun _ h => h) (fun _ h => h) _ _ hJ hC
def F_X12_undo (s : mG) : Option (Int32 × mG) :=
  if (s.1 88 3) = 0 then
    some ((ci 0), s)
  else
    let s2 : mG := (mu s.1 88 3 ((s.1 88 3) - (ci 1)), s.2)
    F_X12_undo_L21 (ci 0) s2
set_option maxRecDepth 4000 in
theorem k_X12_undo_r {N : Nat} {xs : Nat → Int32} (d : Nat) {r : Option Value × mH} {s : mG} {τ : (Int32 × mG)} (hJ : F_X12_undo s = some τ) (hC : (fun τ => r = (some (.int τ.1), (SH, τ.2))) τ) : Rn N xs (d + 0) me246 0 [some (.ref 88), none] [] (SH, s) r := by
  unfold F_X12_undo at hJ
  refine Rn_sq srt246 0 3 (pc' := (if (s.1 88 3) = 0 then 7 else 9)) (ls' := [some (.ref 88), none]) (st' := []) (h1 := (SH, s)) rfl (Rn_if (fun h1 => ?_) (fun h1 => ?_))
  · replace hJ := m_ifp h1 hJ
    refine Rn_sq srt246 3 1 (pc' := 8) (ls' := [some (.ref 88), none]) (st' := [(.int (ci 0))]) (h1 := (SH, s)) rfl ?_
    rw [← Option.some.inj hJ] at hC
    have hC : r = (some (.int (ci 0)), (SH, s)) := hC
    subst hC
    exact Rn_ret srt246 4 rfl rfl (m_ret_b rfl (by decide))
  · replace hJ := m_ifn h1 hJ
    extract_lets +onlyGivenNames s2 at hJ
    refine Rn_sq srt246 5 8 (pc' := 21) (ls' := [some (.ref 88), some (.int (ci 0))]) (st' := []) (h1 := (SH, s2)) rfl ?_
    exact (k_X12_undo_L21 d hJ hC)
theorem k_X12_undo {N : Nat} {xs : Nat → Int32} (d : Nat) {s : mG} {τ : (Int32 × mG)} (hJ : F_X12_undo s = some τ) : Rn N xs (d + 0) me246 0 [some (.ref 88), none] [] (SH, s) (some (.int τ.1), (SH, τ.2)) := k_X12_undo_r d hJ rfl
/-! IsHeInModel.notes(IIII)V -/
theorem srt247 : m_srt mc247 = true := by decide +kernel
def F_X12_notes (a1 : Int32) (a2 : Int32) (a3 : Int32) (a4 : Int32) (s : mG) : Option (mG) :=
  if (s.1 89 2) = (c16 150) then
    some s
  else
    let v2 : Int32 := ((c16 235) + ((ci 5) * (s.1 89 2)))
    if v2 < 0 ∨ 1894 ≤ v2.toNatClampNeg then none else
    let s4 : mG := (mu s.1 89 v2.toNatClampNeg (s.1 89 0), s.2)
    if (v2 + (ci 1)) < 0 ∨ 1894 ≤ (v2 + (ci 1)).toNatClampNeg then none else
    let s6 : mG := (mu s4.1 89 (v2 + (ci 1)).toNatClampNeg a1, s4.2)
    if (v2 + (ci 2)) < 0 ∨ 1894 ≤ (v2 + (ci 2)).toNatClampNeg then none else
    let s8 : mG := (mu s6.1 89 (v2 + (ci 2)).toNatClampNeg a2, s6.2)
    if (v2 + (ci 3)) < 0 ∨ 1894 ≤ (v2 + (ci 3)).toNatClampNeg then none else
    let s10 : mG := (mu s8.1 89 (v2 + (ci 3)).toNatClampNeg a3, s8.2)
    if (v2 + (ci 4)) < 0 ∨ 1894 ≤ (v2 + (ci 4)).toNatClampNeg then none else
    let s12 : mG := (mu s10.1 89 (v2 + (ci 4)).toNatClampNeg a4, s10.2)
    let s13 : mG := (mu s12.1 89 2 ((s12.1 89 2) + (ci 1)), s12.2)
    some s13
set_option maxRecDepth 4000 in
theorem k_X12_notes_r {N : Nat} {xs : Nat → Int32} (d : Nat) {r : Option Value × mH} {s : mG} {a1 : Int32} {a2 : Int32} {a3 : Int32} {a4 : Int32} {τ : (mG)} (hJ : F_X12_notes a1 a2 a3 a4 s = some τ) (hC : (fun τ => r = (none, (SH, τ))) τ) : Rn N xs (d + 0) me247 0 [some (.ref 88), some (.int a1), some (.int a2), some (.int a3), some (.int a4), none] [] (SH, s) r := by
  unfold F_X12_notes at hJ
  refine Rn_sq srt247 0 3 (pc' := 5) (ls' := [some (.ref 88), some (.int a1), some (.int a2), some (.int a3), some (.int a4), none]) (st' := [(.int (ci 2)), (.ref 89)]) (h1 := (SH, s)) rfl ?_
  refine Rn_ev srt247 3 rfl rfl rfl (op_ia sh89 (by decide) (k := 2) rfl) ?_
  refine Rn_sq srt247 4 2 (pc' := (if (s.1 89 2) = (c16 150) then 12 else 13)) (ls' := [some (.ref 88), some (.int a1), some (.int a2), some (.int a3), some (.int a4), none]) (st' := []) (h1 := (SH, s)) rfl (Rn_if (fun h1 => ?_) (fun h1 => ?_))
  · replace hJ := m_ifp h1 hJ
    rw [← Option.some.inj hJ] at hC
    have hC : r = (none, (SH, s)) := hC
    subst hC
    exact Rn_ret srt247 6 rfl rfl rfl
  · replace hJ := m_ifn h1 hJ
    refine Rn_sq srt247 7 5 (pc' := 22) (ls' := [some (.ref 88), some (.int a1), some (.int a2), some (.int a3), some (.int a4), none]) (st' := [(.int (ci 2)), (.ref 89), (.int (ci 5)), (.int (c16 235))]) (h1 := (SH, s)) rfl ?_
    refine Rn_ev srt247 12 rfl rfl rfl (op_ia sh89 (by decide) (k := 2) rfl) ?_
    extract_lets +onlyGivenNames v2 at hJ
    refine Rn_sq srt247 13 9 (pc' := 38) (ls' := [some (.ref 88), some (.int a1), some (.int a2), some (.int a3), some (.int a4), some (.int v2)]) (st' := [(.int (ci 0)), (.ref 89), (.int v2), (.ref 89)]) (h1 := (SH, s)) rfl ?_
    refine Rn_ev srt247 22 rfl rfl rfl (op_ia sh89 (by decide) (k := 0) rfl) ?_
    obtain ⟨h3, hJ⟩ := m_gn hJ
    extract_lets +onlyGivenNames s4 at hJ
    refine Rn_ev srt247 23 rfl rfl rfl (op_ias sh89 h3 (k := v2.toNatClampNeg) rfl) ?_
    refine Rn_sq srt247 24 6 (pc' := 49) (ls' := [some (.ref 88), some (.int a1), some (.int a2), some (.int a3), some (.int a4), some (.int v2)]) (st' := [(.int a1), (.int (v2 + (ci 1))), (.ref 89)]) (h1 := (SH, s4)) rfl ?_
    obtain ⟨h5, hJ⟩ := m_gn hJ
    extract_lets +onlyGivenNames s6 at hJ
    refine Rn_ev srt247 30 rfl rfl rfl (op_ias sh89 h5 (k := (v2 + (ci 1)).toNatClampNeg) rfl) ?_
    refine Rn_sq srt247 31 6 (pc' := 59) (ls' := [some (.ref 88), some (.int a1), some (.int a2), some (.int a3), some (.int a4), some (.int v2)]) (st' := [(.int a2), (.int (v2 + (ci 2))), (.ref 89)]) (h1 := (SH, s6)) rfl ?_
    obtain ⟨h7, hJ⟩ := m_gn hJ
    extract_lets +onlyGivenNames s8 at hJ
    refine Rn_ev srt247 37 rfl rfl rfl (op_ias sh89 h7 (k := (v2 + (ci 2)).toNatClampNeg) rfl) ?_
    refine Rn_sq srt247 38 6 (pc' := 69) (ls' := [some (.ref 88), some (.int a1), some (.int a2), some (.int a3), some (.int a4), some (.int v2)]) (st' := [(.int a3), (.int (v2 + (ci 3))), (.ref 89)]) (h1 := (SH, s8)) rfl ?_
    obtain ⟨h9, hJ⟩ := m_gn hJ
    extract_lets +onlyGivenNames s10 at hJ
    refine Rn_ev srt247 44 rfl rfl rfl (op_ias sh89 h9 (k := (v2 + (ci 3)).toNatClampNeg) rfl) ?_
    refine Rn_sq srt247 45 6 (pc' := 80) (ls' := [some (.ref 88), some (.int a1), some (.int a2), some (.int a3), some (.int a4), some (.int v2)]) (st' := [(.int a4), (.int (v2 + (ci 4))), (.ref 89)]) (h1 := (SH, s10)) rfl ?_
    obtain ⟨h11, hJ⟩ := m_gn hJ
    extract_lets +onlyGivenNames s12 at hJ
    refine Rn_ev srt247 51 rfl rfl rfl (op_ias sh89 h11 (k := (v2 + (ci 4)).toNatClampNeg) rfl) ?_
    refine Rn_sq srt247 52 4 (pc' := 87) (ls' := [some (.ref 88), some (.int a1), some (.int a2), some (.int a3), some (.int a4), some (.int v2)]) (st' := [(.int (ci 2)), (.ref 89), (.int (ci 2)), (.ref 89)]) (h1 := (SH, s12)) rfl ?_
    refine Rn_ev srt247 56 rfl rfl rfl (op_ia sh89 (by decide) (k := 2) rfl) ?_
    refine Rn_sq srt247 57 2 (pc' := 90) (ls' := [some (.ref 88), some (.int a1), some (.int a2), some (.int a3), some (.int a4), some (.int v2)]) (st' := [(.int ((s12.1 89 2) + (ci 1))), (.int (ci 2)), (.ref 89)]) (h1 := (SH, s12)) rfl ?_
    extract_lets +onlyGivenNames s13 at hJ
    refine Rn_ev srt247 59 rfl rfl rfl (op_ias sh89 (by decide) (k := 2) rfl) ?_
    rw [← Option.some.inj hJ] at hC
    have hC : r = (none, (SH, s13)) := hC
    subst hC
    exact Rn_ret srt247 60 rfl rfl rfl
theorem k_X12_notes {N : Nat} {xs : Nat → Int32} (d : Nat) {s : mG} {a1 : Int32} {a2 : Int32} {a3 : Int32} {a4 : Int32} {τ : (mG)} (hJ : F_X12_notes a1 a2 a3 a4 s = some τ) : Rn N xs (d + 0) me247 0 [some (.ref 88), some (.int a1), some (.int a2), some (.int a3), some (.int a4), none] [] (SH, s) (none, (SH, τ)) := k_X12_notes_r d hJ rfl
/-! IsHeInModel.keyOn(I)I -/
theorem srt248 : m_srt mc248 = true := by decide +kernel
def C_X12_keyOn_2 (N : Nat) (xs : Nat → Int32) (s : mG) (d : Nat) (r : Option Value × mH) (C : (Int32) → Prop) : ((Int32 × Int32) ⊕ (Int32)) → Prop
  | .inl v => Rn N xs (d + 0) me248 2 [some (.ref 88), some (.int v.1), some (.int v.2)] [] (SH, s) r
  | .inr a => C a
def F_X12_keyOn_B2 (s : mG) (x1 : Int32) (x2 : Int32) : Option ((Int32 × Int32) ⊕ (Int32)) :=
  if (s.1 89 112) ≤ x2 then
    some (Sum.inr (ci (-1)))
  else
    if ((c8 15) + x2) < 0 ∨ 1894 ≤ ((c8 15) + x2).toNatClampNeg then none else
    if (s.1 89 ((c8 15) + x2).toNatClampNeg) = x1 then
      some (Sum.inr x2)
    else
      some (Sum.inl (x1, (x2 + ci 1)))
set_option maxRecDepth 4000 in
theorem k_X12_keyOn_B2 {N : Nat} {xs : Nat → Int32} (d : Nat) {r : Option Value × mH} {s : mG} {x1 : Int32} {x2 : Int32} {τ : ((Int32 × Int32) ⊕ (Int32))} (hJ : F_X12_keyOn_B2 s x1 x2 = some τ) (hC : (C_X12_keyOn_2 N xs s d r (fun τ => r = (some (.int τ), (SH, s)))) τ) : Rn N xs (d + 0) me248 2 [some (.ref 88), some (.int x1), some (.int x2)] [] (SH, s) r := by
  unfold F_X12_keyOn_B2 at hJ
  refine Rn_sq srt248 2 4 (pc' := 9) (ls' := [some (.ref 88), some (.int x1), some (.int x2)]) (st' := [(.int (c8 112)), (.ref 89), (.int x2)]) (h1 := (SH, s)) rfl ?_
  refine Rn_ev srt248 6 rfl rfl rfl (op_ia sh89 (by decide) (k := 112) rfl) ?_
  refine Rn_sq srt248 7 1 (pc' := (if (s.1 89 112) ≤ x2 then 34 else 13)) (ls' := [some (.ref 88), some (.int x1), some (.int x2)]) (st' := []) (h1 := (SH, s)) rfl (Rn_if (fun h1 => ?_) (fun h1 => ?_))
  · replace hJ := m_ifp h1 hJ
    refine Rn_sq srt248 20 1 (pc' := 35) (ls' := [some (.ref 88), some (.int x1), some (.int x2)]) (st' := [(.int (ci (-1)))]) (h1 := (SH, s)) rfl ?_
    rw [← Option.some.inj hJ] at hC
    have hC : r = (some (.int (ci (-1))), (SH, s)) := hC
    subst hC
    exact Rn_ret srt248 21 rfl rfl rfl
  · replace hJ := m_ifn h1 hJ
    refine Rn_sq srt248 8 5 (pc' := 21) (ls' := [some (.ref 88), some (.int x1), some (.int x2)]) (st' := [(.int ((c8 15) + x2)), (.ref 89)]) (h1 := (SH, s)) rfl ?_
    obtain ⟨h2, hJ⟩ := m_gn hJ
    refine Rn_ev srt248 13 rfl rfl rfl (op_ia sh89 h2 (k := ((c8 15) + x2).toNatClampNeg) rfl) ?_
    refine Rn_sq srt248 14 2 (pc' := (if (s.1 89 ((c8 15) + x2).toNatClampNeg) = x1 then 26 else 28)) (ls' := [some (.ref 88), some (.int x1), some (.int x2)]) (st' := []) (h1 := (SH, s)) rfl (Rn_if (fun h3 => ?_) (fun h3 => ?_))
    · replace hJ := m_ifp h3 hJ
      refine Rn_sq srt248 16 1 (pc' := 27) (ls' := [some (.ref 88), some (.int x1), some (.int x2)]) (st' := [(.int x2)]) (h1 := (SH, s)) rfl ?_
      rw [← Option.some.inj hJ] at hC
      have hC : r = (some (.int x2), (SH, s)) := hC
      subst hC
      exact Rn_ret srt248 17 rfl rfl rfl
    · replace hJ := m_ifn h3 hJ
      refine Rn_sq srt248 18 2 (pc' := 2) (ls' := [some (.ref 88), some (.int x1), some (.int (x2 + ci 1))]) (st' := []) (h1 := (SH, s)) rfl ?_
      rw [← Option.some.inj hJ] at hC
      exact hC
def F_X12_keyOn_L2 (s : mG) (x1 : Int32) (x2 : Int32) : Option (Int32) := whl (fun (v : (Int32 × Int32)) => F_X12_keyOn_B2 s v.1 v.2) (x1, x2)
theorem k_X12_keyOn_L2 {N : Nat} {xs : Nat → Int32} (d : Nat) {r : Option Value × mH} {s : mG} {x1 : Int32} {x2 : Int32} {τ : (Int32)} (hJ : F_X12_keyOn_L2 s x1 x2 = some τ) (hC : (fun τ => r = (some (.int τ), (SH, s))) τ) : Rn N xs (d + 0) me248 2 [some (.ref 88), some (.int x1), some (.int x2)] [] (SH, s) r :=
  whl_link (P := fun (v : (Int32 × Int32)) => Rn N xs (d + 0) me248 2 [some (.ref 88), some (.int v.1), some (.int v.2)] [] (SH, s) r) (C := (C_X12_keyOn_2 N xs s d r (fun τ => r = (some (.int τ), (SH, s))))) (fun v τ h1 h2 => k_X12_keyOn_B2 d h1 h2) (fun _ h => h) (fun _ h => h) _ _ hJ hC
def F_X12_keyOn (s : mG) (a1 : Int32) : Option (Int32) :=
  F_X12_keyOn_L2 s a1 (ci 0)
set_option maxRecDepth 4000 in
theorem k_X12_keyOn_r {N : Nat} {xs : Nat → Int32} (d : Nat) {r : Option Value × mH} {s : mG} {a1 : Int32} {τ : (Int32)} (hJ : F_X12_keyOn s a1 = some τ) (hC : (fun τ => r = (some (.int τ), (SH, s))) τ) : Rn N xs (d + 0) me248 0 [some (.ref 88), some (.int a1), none] [] (SH, s) r := by
  unfold F_X12_keyOn at hJ
  refine Rn_sq srt248 0 2 (pc' := 2) (ls' := [some (.ref 88), some (.int a1), some (.int (ci 0))]) (st' := []) (h1 := (SH, s)) rfl ?_
  exact (k_X12_keyOn_L2 d hJ hC)
theorem k_X12_keyOn {N : Nat} {xs : Nat → Int32} (d : Nat) {s : mG} {a1 : Int32} {τ : (Int32)} (hJ : F_X12_keyOn s a1 = some τ) : Rn N xs (d + 0) me248 0 [some (.ref 88), some (.int a1), none] [] (SH, s) (some (.int τ), (SH, s)) := k_X12_keyOn_r d hJ rfl
/-! IsHeInModel.clerkAt(I)I -/
theorem srt249 : m_srt mc249 = true := by decide +kernel
def C_X12_clerkAt_2 (N : Nat) (xs : Nat → Int32) (s : mG) (d : Nat) (r : Option Value × mH) (C : (Int32) → Prop) : ((Int32 × Int32) ⊕ (Int32)) → Prop
  | .inl v => Rn N xs (d + 0) me249 2 [some (.ref 88), some (.int v.1), some (.int v.2), none] [] (SH, s) r
  | .inr a => C a
def F_X12_clerkAt_75 (s : mG) (x1 : Int32) (x2 : Int32) : Option ((Int32 × Int32) ⊕ (Int32)) :=
  some (Sum.inl (x1, (x2 + ci 1)))
set_option maxRecDepth 4000 in
theorem k_X12_clerkAt_75 {N : Nat} {xs : Nat → Int32} (d : Nat) {r : Option Value × mH} {s : mG} {x1 : Int32} {x2 : Int32} {τ : ((Int32 × Int32) ⊕ (Int32))} (hJ : F_X12_clerkAt_75 s x1 x2 = some τ) (hC : (C_X12_clerkAt_2 N xs s d r (fun τ => r = (some (.int τ), (SH, s)))) τ) : Rn N xs (d + 0) me249 75 [some (.ref 88), some (.int x1), some (.int x2), none] [] (SH, s) r := by
  unfold F_X12_clerkAt_75 at hJ
  refine Rn_sq srt249 51 2 (pc' := 2) (ls' := [some (.ref 88), some (.int x1), some (.int (x2 + ci 1)), none]) (st' := []) (h1 := (SH, s)) rfl ?_
  rw [← Option.some.inj hJ] at hC
  exact hC
def F_X12_clerkAt_B2 (s : mG) (x1 : Int32) (x2 : Int32) : Option ((Int32 × Int32) ⊕ (Int32)) :=
  if (s.1 89 116) ≤ x2 then
    some (Sum.inr (ci (-1)))
  else
    let v2 : Int32 := ((c16 155) + ((ci 4) * x2))
    if (v2 + (ci 3)) < 0 ∨ 1894 ≤ (v2 + (ci 3)).toNatClampNeg then none else
    if (s.1 89 (v2 + (ci 3)).toNatClampNeg) = x1 then
      if (v2 + (ci 1)) < 0 ∨ 1894 ≤ (v2 + (ci 1)).toNatClampNeg then none else
      if (v2 + (ci 2)) < 0 ∨ 1894 ≤ (v2 + (ci 2)).toNatClampNeg then none else
      if (s.1 89 (v2 + (ci 2)).toNatClampNeg) ≤ (rm (((rm (s.1 89 0) (c8 24)) + (c8 24)) - (s.1 89 (v2 + (ci 1)).toNatClampNeg)) (c8 24)) then
        F_X12_clerkAt_75 s x1 x2
      else
        if v2 < 0 ∨ 1894 ≤ v2.toNatClampNeg then none else
        some (Sum.inr (s.1 89 v2.toNatClampNeg))
    else
      F_X12_clerkAt_75 s x1 x2
set_option maxRecDepth 4000 in
theorem k_X12_clerkAt_B2 {N : Nat} {xs : Nat → Int32} (d : Nat) {r : Option Value × mH} {s : mG} {x1 : Int32} {x2 : Int32} {τ : ((Int32 × Int32) ⊕ (Int32))} (hJ : F_X12_clerkAt_B2 s x1 x2 = some τ) (hC : (C_X12_clerkAt_2 N xs s d r (fun τ => r = (some (.int τ), (SH, s)))) τ) : Rn N xs (d + 0) me249 2 [some (.ref 88), some (.int x1), some (.int x2), none] [] (SH, s) r := by
  unfold F_X12_clerkAt_B2 at hJ
  refine Rn_sq srt249 2 4 (pc' := 9) (ls' := [some (.ref 88), some (.int x1), some (.int x2), none]) (st' := [(.int (c8 116)), (.ref 89), (.int x2)]) (h1 := (SH, s)) rfl ?_
  refine Rn_ev srt249 6 rfl rfl rfl (op_ia sh89 (by decide) (k := 116) rfl) ?_
  refine Rn_sq srt249 7 1 (pc' := (if (s.1 89 116) ≤ x2 then 81 else 13)) (ls' := [some (.ref 88), some (.int x1), some (.int x2), none]) (st' := []) (h1 := (SH, s)) rfl (Rn_if (fun h1 => ?_) (fun h1 => ?_))
  · replace hJ := m_ifp h1 hJ
    refine Rn_sq srt249 53 1 (pc' := 82) (ls' := [some (.ref 88), some (.int x1), some (.int x2), none]) (st' := [(.int (ci (-1)))]) (h1 := (SH, s)) rfl ?_
    rw [← Option.some.inj hJ] at hC
    have hC : r = (some (.int (ci (-1))), (SH, s)) := hC
    subst hC
    exact Rn_ret srt249 54 rfl rfl rfl
  · replace hJ := m_ifn h1 hJ
    extract_lets +onlyGivenNames v2 at hJ
    refine Rn_sq srt249 8 11 (pc' := 28) (ls' := [some (.ref 88), some (.int x1), some (.int x2), some (.int v2)]) (st' := [(.int (v2 + (ci 3))), (.ref 89)]) (h1 := (SH, s)) rfl ?_
    obtain ⟨h3, hJ⟩ := m_gn hJ
    refine Rn_ev srt249 19 rfl rfl rfl (op_ia sh89 h3 (k := (v2 + (ci 3)).toNatClampNeg) rfl) ?_
    refine Rn_sq srt249 20 2 (pc' := (if (s.1 89 (v2 + (ci 3)).toNatClampNeg) = x1 then 33 else 75)) (ls' := [some (.ref 88), some (.int x1), some (.int x2), some (.int v2)]) (st' := []) (h1 := (SH, s)) rfl (Rn_if (fun h4 => ?_) (fun h4 => ?_))
    · replace hJ := m_ifp h4 hJ
      refine Rn_sq srt249 22 3 (pc' := 38) (ls' := [some (.ref 88), some (.int x1), some (.int x2), some (.int v2)]) (st' := [(.int (ci 0)), (.ref 89)]) (h1 := (SH, s)) rfl ?_
      refine Rn_ev srt249 25 rfl rfl rfl (op_ia sh89 (by decide) (k := 0) rfl) ?_
      refine Rn_sq srt249 26 1 (pc' := 41) (ls' := [some (.ref 88), some (.int x1), some (.int x2), some (.int v2)]) (st' := [(.int (c8 24)), (.int (s.1 89 0))]) (h1 := (SH, s)) rfl ?_
      refine Rn_ev srt249 27 rfl rfl rfl (op_irem (by decide)) ?_
      refine Rn_sq srt249 28 7 (pc' := 52) (ls' := [some (.ref 88), some (.int x1), some (.int x2), some (.int v2)]) (st' := [(.int (v2 + (ci 1))), (.ref 89), (.int ((rm (s.1 89 0) (c8 24)) + (c8 24)))]) (h1 := (SH, s)) rfl ?_
      obtain ⟨h5, hJ⟩ := m_gn hJ
      refine Rn_ev srt249 35 rfl rfl rfl (op_ia sh89 h5 (k := (v2 + (ci 1)).toNatClampNeg) rfl) ?_
      refine Rn_sq srt249 36 2 (pc' := 56) (ls' := [some (.ref 88), some (.int x1), some (.int x2), some (.int v2)]) (st' := [(.int (c8 24)), (.int (((rm (s.1 89 0) (c8 24)) + (c8 24)) - (s.1 89 (v2 + (ci 1)).toNatClampNeg)))]) (h1 := (SH, s)) rfl ?_
      refine Rn_ev srt249 38 rfl rfl rfl (op_irem (by decide)) ?_
      refine Rn_sq srt249 39 5 (pc' := 64) (ls' := [some (.ref 88), some (.int x1), some (.int x2), some (.int v2)]) (st' := [(.int (v2 + (ci 2))), (.ref 89), (.int (rm (((rm (s.1 89 0) (c8 24)) + (c8 24)) - (s.1 89 (v2 + (ci 1)).toNatClampNeg)) (c8 24)))]) (h1 := (SH, s)) rfl ?_
      obtain ⟨h6, hJ⟩ := m_gn hJ
      refine Rn_ev srt249 44 rfl rfl rfl (op_ia sh89 h6 (k := (v2 + (ci 2)).toNatClampNeg) rfl) ?_
      refine Rn_sq srt249 45 1 (pc' := (if (s.1 89 (v2 + (ci 2)).toNatClampNeg) ≤ (rm (((rm (s.1 89 0) (c8 24)) + (c8 24)) - (s.1 89 (v2 + (ci 1)).toNatClampNeg)) (c8 24)) then 75 else 68)) (ls' := [some (.ref 88), some (.int x1), some (.int x2), some (.int v2)]) (st' := []) (h1 := (SH, s)) rfl (Rn_if (fun h7 => ?_) (fun h7 => ?_))
      · replace hJ := m_ifp h7 hJ
        exact Rn_weaken (a := [some (.ref 88), some (.int x1), some (.int x2), none]) (b := [some (.ref 88), some (.int x1), some (.int x2), some (.int v2)]) (And.intro rfl (And.intro rfl (And.intro rfl trivial))) rfl (k_X12_clerkAt_75 d hJ hC)
      · replace hJ := m_ifn h7 hJ
        refine Rn_sq srt249 46 3 (pc' := 73) (ls' := [some (.ref 88), some (.int x1), some (.int x2), some (.int v2)]) (st' := [(.int v2), (.ref 89)]) (h1 := (SH, s)) rfl ?_
        obtain ⟨h8, hJ⟩ := m_gn hJ
        refine Rn_ev srt249 49 rfl rfl rfl (op_ia sh89 h8 (k := v2.toNatClampNeg) rfl) ?_
        rw [← Option.some.inj hJ] at hC
        have hC : r = (some (.int (s.1 89 v2.toNatClampNeg)), (SH, s)) := hC
        subst hC
        exact Rn_ret srt249 50 rfl rfl rfl
    · replace hJ := m_ifn h4 hJ
      exact Rn_weaken (a := [some (.ref 88), some (.int x1), some (.int x2), none]) (b := [some (.ref 88), some (.int x1), some (.int x2), some (.int v2)]) (And.intro rfl (And.intro rfl (And.intro rfl trivial))) rfl (k_X12_clerkAt_75 d hJ hC)
def F_X12_clerkAt_L2 (s : mG) (x1 : Int32) (x2 : Int32) : Option (Int32) := whl (fun (v : (Int32 × Int32)) => F_X12_clerkAt_B2 s v.1 v.2) (x1, x2)
theorem k_X12_clerkAt_L2 {N : Nat} {xs : Nat → Int32} (d : Nat) {r : Option Value × mH} {s : mG} {x1 : Int32} {x2 : Int32} {τ : (Int32)} (hJ : F_X12_clerkAt_L2 s x1 x2 = some τ) (hC : (fun τ => r = (some (.int τ), (SH, s))) τ) : Rn N xs (d + 0) me249 2 [some (.ref 88), some (.int x1), some (.int x2), none] [] (SH, s) r :=
  whl_link (P := fun (v : (Int32 × Int32)) => Rn N xs (d + 0) me249 2 [some (.ref 88), some (.int v.1), some (.int v.2), none] [] (SH, s) r) (C := (C_X12_clerkAt_2 N xs s d r (fun τ => r = (some (.int τ), (SH, s))))) (fun v τ h1 h2 => k_X12_clerkAt_B2 d h1 h2) (fun _ h => h) (fun _ h => h) _ _ hJ hC
def F_X12_clerkAt (s : mG) (a1 : Int32) : Option (Int32) :=
  F_X12_clerkAt_L2 s a1 (ci 0)
set_option maxRecDepth 4000 in
theorem k_X12_clerkAt_r {N : Nat} {xs : Nat → Int32} (d : Nat) {r : Option Value × mH} {s : mG} {a1 : Int32} {τ : (Int32)} (hJ : F_X12_clerkAt s a1 = some τ) (hC : (fun τ => r = (some (.int τ), (SH, s))) τ) : Rn N xs (d + 0) me249 0 [some (.ref 88), some (.int a1), none, none] [] (SH, s) r := by
  unfold F_X12_clerkAt at hJ
  refine Rn_sq srt249 0 2 (pc' := 2) (ls' := [some (.ref 88), some (.int a1), some (.int (ci 0)), none]) (st' := []) (h1 := (SH, s)) rfl ?_
  exact (k_X12_clerkAt_L2 d hJ hC)
theorem k_X12_clerkAt {N : Nat} {xs : Nat → Int32} (d : Nat) {s : mG} {a1 : Int32} {τ : (Int32)} (hJ : F_X12_clerkAt s a1 = some τ) : Rn N xs (d + 0) me249 0 [some (.ref 88), some (.int a1), none, none] [] (SH, s) (some (.int τ), (SH, s)) := k_X12_clerkAt_r d hJ rfl
/-! IsHeInModel.hangsOn(III)I -/
theorem srt250 : m_srt mc250 = true := by decide +kernel
def F_X12_hangsOn_62 (x1 : Int32) (s : mG) : Option (Int32 × mG) :=
  b1 (F_X12_keyOn s x1) fun v13 =>
  if v13 = (ci (-1)) then
    some (x1, s)
  else
    some ((ci (-1)), s)
set_option maxRecDepth 4000 in
theorem k_X12_hangsOn_62 {N : Nat} {xs : Nat → Int32} (d : Nat) {r : Option Value × mH} {s : mG} {x1 : Int32} {τ : (Int32 × mG)} (hJ : F_X12_hangsOn_62 x1 s = some τ) (hC : (fun τ => r = (some (.int τ.1), (SH, τ.2))) τ) : Rn N xs (d + 1) me250 62 [some (.ref 88), some (.int x1), none, none, none, none] [] (SH, s) r := by
  unfold F_X12_hangsOn_62 at hJ
  refine Rn_sq srt250 34 2 (pc' := 64) (ls' := [some (.ref 88), some (.int x1), none, none, none, none]) (st' := [(.int x1), (.ref 88)]) (h1 := (SH, s)) rfl ?_
  obtain ⟨v13, h12, hJ⟩ := m_b1 hJ
  refine Rn_call srt250 36 rfl rfl rfl ⟨Nat.le_of_ble_eq_true rfl, Nat.le_of_ble_eq_true rfl, rfl, Nat.le_of_ble_eq_true rfl⟩ (k_X12_keyOn (d) h12) (show Rn N xs (d + 1) me250 67 [some (.ref 88), some (.int x1), none, none, none, none] [(.int v13)] (SH, s) r from ?_)
  refine Rn_sq srt250 37 2 (pc' := (if v13 = (ci (-1)) then 71 else 75)) (ls' := [some (.ref 88), some (.int x1), none, none, none, none]) (st' := []) (h1 := (SH, s)) rfl (Rn_if (fun h14 => ?_) (fun h14 => ?_))
  · replace hJ := m_ifp h14 hJ
    refine Rn_sq srt250 39 2 (pc' := 76) (ls' := [some (.ref 88), some (.int x1), none, none, none, none]) (st' := [(.int x1)]) (h1 := (SH, s)) rfl ?_
    rw [← Option.some.inj hJ] at hC
    have hC : r = (some (.int x1), (SH, s)) := hC
    subst hC
    exact Rn_ret srt250 42 rfl rfl rfl
  · replace hJ := m_ifn h14 hJ
    refine Rn_sq srt250 41 1 (pc' := 76) (ls' := [some (.ref 88), some (.int x1), none, none, none, none]) (st' := [(.int (ci (-1)))]) (h1 := (SH, s)) rfl ?_
    rw [← Option.some.inj hJ] at hC
    have hC : r = (some (.int (ci (-1))), (SH, s)) := hC
    subst hC
    exact Rn_ret srt250 42 rfl rfl rfl
def F_X12_hangsOn_29 (x1 : Int32) (y0 : Int32) (s : mG) : Option (Int32 × mG) :=
  if (s.1 89 112) = 0 then none else
  let v10 : Int32 := (rm (x1 + (ci 1)) (s.1 89 112))
  if y0 = 0 then
    F_X12_hangsOn_62 x1 s
  else
    b1 (F_X12_keyOn s v10) fun v16 =>
    if v16 = (ci (-1)) then
      some (v10, s)
    else
      F_X12_hangsOn_62 x1 s
set_option maxRecDepth 4000 in
theorem k_X12_hangsOn_29 {N : Nat} {xs : Nat → Int32} (d : Nat) {r : Option Value × mH} {s : mG} {x1 : Int32} {y0 : Int32} {τ : (Int32 × mG)} (hJ : F_X12_hangsOn_29 x1 y0 s = some τ) (hC : (fun τ => r = (some (.int τ.1), (SH, τ.2))) τ) : Rn N xs (d + 1) me250 29 [some (.ref 88), some (.int x1), none, none, none, none] [(.int y0)] (SH, s) r := by
  unfold F_X12_hangsOn_29 at hJ
  refine Rn_sq srt250 15 7 (pc' := 40) (ls' := [some (.ref 88), some (.int x1), none, none, some (.int y0), none]) (st' := [(.int (c8 112)), (.ref 89), (.int (x1 + (ci 1)))]) (h1 := (SH, s)) rfl ?_
  refine Rn_ev srt250 22 rfl rfl rfl (op_ia sh89 (by decide) (k := 112) rfl) ?_
  obtain ⟨h9, hJ⟩ := m_gn hJ
  refine Rn_ev srt250 23 rfl rfl rfl (op_irem h9) ?_
  extract_lets +onlyGivenNames v10 at hJ
  refine Rn_sq srt250 24 3 (pc' := (if y0 = 0 then 62 else 49)) (ls' := [some (.ref 88), some (.int x1), none, none, some (.int y0), some (.int v10)]) (st' := []) (h1 := (SH, s)) rfl (Rn_if (fun h11 => ?_) (fun h11 => ?_))
  · replace hJ := m_ifp h11 hJ
    exact Rn_weaken (a := [some (.ref 88), some (.int x1), none, none, none, none]) (b := [some (.ref 88), some (.int x1), none, none, some (.int y0), some (.int v10)]) (And.intro rfl (And.intro rfl trivial)) rfl (k_X12_hangsOn_62 d hJ hC)
  · replace hJ := m_ifn h11 hJ
    refine Rn_sq srt250 27 2 (pc' := 52) (ls' := [some (.ref 88), some (.int x1), none, none, some (.int y0), some (.int v10)]) (st' := [(.int v10), (.ref 88)]) (h1 := (SH, s)) rfl ?_
    obtain ⟨v16, h15, hJ⟩ := m_b1 hJ
    refine Rn_call srt250 29 rfl rfl rfl ⟨Nat.le_of_ble_eq_true rfl, Nat.le_of_ble_eq_true rfl, rfl, Nat.le_of_ble_eq_true rfl⟩ (k_X12_keyOn (d) h15) (show Rn N xs (d + 1) me250 55 [some (.ref 88), some (.int x1), none, none, some (.int y0), some (.int v10)] [(.int v16)] (SH, s) r from ?_)
    refine Rn_sq srt250 30 2 (pc' := (if v16 = (ci (-1)) then 59 else 62)) (ls' := [some (.ref 88), some (.int x1), none, none, some (.int y0), some (.int v10)]) (st' := []) (h1 := (SH, s)) rfl (Rn_if (fun h17 => ?_) (fun h17 => ?_))
    · replace hJ := m_ifp h17 hJ
      refine Rn_sq srt250 32 1 (pc' := 61) (ls' := [some (.ref 88), some (.int x1), none, none, some (.int y0), some (.int v10)]) (st' := [(.int v10)]) (h1 := (SH, s)) rfl ?_
      rw [← Option.some.inj hJ] at hC
      have hC : r = (some (.int v10), (SH, s)) := hC
      subst hC
      exact Rn_ret srt250 33 rfl rfl rfl
    · replace hJ := m_ifn h17 hJ
      exact Rn_weaken (a := [some (.ref 88), some (.int x1), none, none, none, none]) (b := [some (.ref 88), some (.int x1), none, none, some (.int y0), some (.int v10)]) (And.intro rfl (And.intro rfl trivial)) rfl (k_X12_hangsOn_62 d hJ hC)
def F_X12_hangsOn (a1 : Int32) (a2 : Int32) (a3 : Int32) (s : mG) : Option (Int32 × mG) :=
  b2 (F_X12_draw (c16 1000) s) fun v3 s2 =>
  if a2 ≤ v3 then
    b2 (F_X12_draw (c16 1000) s2) fun v7 s6 =>
    if a3 ≤ v7 then
      F_X12_hangsOn_29 a1 (ci 0) s6
    else
      F_X12_hangsOn_29 a1 (ci 1) s6
  else
    some ((ci (-1)), s2)
set_option maxRecDepth 4000 in
theorem k_X12_hangsOn_r {N : Nat} {xs : Nat → Int32} (d : Nat) {r : Option Value × mH} {s : mG} {a1 : Int32} {a2 : Int32} {a3 : Int32} {τ : (Int32 × mG)} (hJ : F_X12_hangsOn a1 a2 a3 s = some τ) (hC : (fun τ => r = (some (.int τ.1), (SH, τ.2))) τ) : Rn N xs (d + 1) me250 0 [some (.ref 88), some (.int a1), some (.int a2), some (.int a3), none, none] [] (SH, s) r := by
  unfold F_X12_hangsOn at hJ
  refine Rn_sq srt250 0 2 (pc' := 4) (ls' := [some (.ref 88), some (.int a1), some (.int a2), some (.int a3), none, none]) (st' := [(.int (c16 1000)), (.ref 88)]) (h1 := (SH, s)) rfl ?_
  obtain ⟨v3, s2, h1, hJ⟩ := m_b2 hJ
  refine Rn_call srt250 2 rfl rfl rfl ⟨Nat.le_of_ble_eq_true rfl, Nat.le_of_ble_eq_true rfl, rfl, Nat.le_of_ble_eq_true rfl⟩ (k_X12_draw (d) h1) (show Rn N xs (d + 1) me250 7 [some (.ref 88), some (.int a1), some (.int a2), some (.int a3), none, none] [(.int v3)] (SH, s2) r from ?_)
  refine Rn_sq srt250 3 2 (pc' := (if a2 ≤ v3 then 13 else 11)) (ls' := [some (.ref 88), some (.int a1), some (.int a2), some (.int a3), none, none]) (st' := []) (h1 := (SH, s2)) rfl (Rn_if (fun h4 => ?_) (fun h4 => ?_))
  · replace hJ := m_ifp h4 hJ
    refine Rn_sq srt250 7 2 (pc' := 17) (ls' := [some (.ref 88), some (.int a1), some (.int a2), some (.int a3), none, none]) (st' := [(.int (c16 1000)), (.ref 88)]) (h1 := (SH, s2)) rfl ?_
    obtain ⟨v7, s6, h5, hJ⟩ := m_b2 hJ
    refine Rn_call srt250 9 rfl rfl rfl ⟨Nat.le_of_ble_eq_true rfl, Nat.le_of_ble_eq_true rfl, rfl, Nat.le_of_ble_eq_true rfl⟩ (k_X12_draw (d) h5) (show Rn N xs (d + 1) me250 20 [some (.ref 88), some (.int a1), some (.int a2), some (.int a3), none, none] [(.int v7)] (SH, s6) r from ?_)
    refine Rn_sq srt250 10 2 (pc' := (if a3 ≤ v7 then 28 else 24)) (ls' := [some (.ref 88), some (.int a1), some (.int a2), some (.int a3), none, none]) (st' := []) (h1 := (SH, s6)) rfl (Rn_if (fun h8 => ?_) (fun h8 => ?_))
    · replace hJ := m_ifp h8 hJ
      refine Rn_sq srt250 14 1 (pc' := 29) (ls' := [some (.ref 88), some (.int a1), some (.int a2), some (.int a3), none, none]) (st' := [(.int (ci 0))]) (h1 := (SH, s6)) rfl ?_
      exact Rn_weaken (a := [some (.ref 88), some (.int a1), none, none, none, none]) (b := [some (.ref 88), some (.int a1), some (.int a2), some (.int a3), none, none]) (And.intro rfl (And.intro rfl trivial)) rfl (k_X12_hangsOn_29 d hJ hC)
    · replace hJ := m_ifn h8 hJ
      refine Rn_sq srt250 12 2 (pc' := 29) (ls' := [some (.ref 88), some (.int a1), some (.int a2), some (.int a3), none, none]) (st' := [(.int (ci 1))]) (h1 := (SH, s6)) rfl ?_
      exact Rn_weaken (a := [some (.ref 88), some (.int a1), none, none, none, none]) (b := [some (.ref 88), some (.int a1), some (.int a2), some (.int a3), none, none]) (And.intro rfl (And.intro rfl trivial)) rfl (k_X12_hangsOn_29 d hJ hC)
  · replace hJ := m_ifn h4 hJ
    refine Rn_sq srt250 5 1 (pc' := 12) (ls' := [some (.ref 88), some (.int a1), some (.int a2), some (.int a3), none, none]) (st' := [(.int (ci (-1)))]) (h1 := (SH, s2)) rfl ?_
    rw [← Option.some.inj hJ] at hC
    have hC : r = (some (.int (ci (-1))), (SH, s2)) := hC
    subst hC
    exact Rn_ret srt250 6 rfl rfl rfl
theorem k_X12_hangsOn {N : Nat} {xs : Nat → Int32} (d : Nat) {s : mG} {a1 : Int32} {a2 : Int32} {a3 : Int32} {τ : (Int32 × mG)} (hJ : F_X12_hangsOn a1 a2 a3 s = some τ) : Rn N xs (d + 1) me250 0 [some (.ref 88), some (.int a1), some (.int a2), some (.int a3), none, none] [] (SH, s) (some (.int τ.1), (SH, τ.2)) := k_X12_hangsOn_r d hJ rfl
/-! IsHeInModel.isMoved(I)Z -/
theorem srt251 : m_srt mc251 = true := by decide +kernel
def F_X12_isMoved_147 (x1 : Int32) (x7 : Int32) (y1 : Int32) (s : mG) : Option (Int32 × mG) :=
  b1 (F_X12_clerkAt s x7) fun v35 =>
  b1 (F_X12_notes y1 x1 x7 v35 s) fun s37 =>
  some ((ci 1), s37)
set_option maxRecDepth 4000 in
theorem k_X12_isMoved_147 {N : Nat} {xs : Nat → Int32} (d : Nat) {r : Option Value × mH} {s : mG} {x1 : Int32} {x7 : Int32} {y1 : Int32} {τ : (Int32 × mG)} (hJ : F_X12_isMoved_147 x1 x7 y1 s = some τ) (hC : (fun τ => r = (some (.int τ.1), (SH, τ.2))) τ) : Rn N xs (d + 5) me251 147 [some (.ref 88), some (.int x1), none, none, none, none, none, some (.int x7)] [(.int y1), (.ref 88)] (SH, s) r := by
  unfold F_X12_isMoved_147 at hJ
  refine Rn_sq srt251 84 4 (pc' := 153) (ls' := [some (.ref 88), some (.int x1), none, none, none, none, none, some (.int x7)]) (st' := [(.int x7), (.ref 88), (.int x7), (.int x1), (.int y1), (.ref 88)]) (h1 := (SH, s)) rfl ?_
  obtain ⟨v35, h34, hJ⟩ := m_b1 hJ
  refine Rn_call srt251 88 rfl rfl rfl ⟨Nat.le_of_ble_eq_true rfl, Nat.le_of_ble_eq_true rfl, rfl, Nat.le_of_ble_eq_true rfl⟩ (k_X12_clerkAt (d + 4) h34) (show Rn N xs (d + 5) me251 156 [some (.ref 88), some (.int x1), none, none, none, none, none, some (.int x7)] [(.int v35), (.int x7), (.int x1), (.int y1), (.ref 88)] (SH, s) r from ?_)
  obtain ⟨s37, h36, hJ⟩ := m_b1 hJ
  refine Rn_call srt251 89 rfl rfl rfl ⟨Nat.le_of_ble_eq_true rfl, Nat.le_of_ble_eq_true rfl, rfl, Nat.le_of_ble_eq_true rfl⟩ (k_X12_notes (d + 4) h36) (show Rn N xs (d + 5) me251 159 [some (.ref 88), some (.int x1), none, none, none, none, none, some (.int x7)] [] (SH, s37) r from ?_)
  refine Rn_sq srt251 90 1 (pc' := 160) (ls' := [some (.ref 88), some (.int x1), none, none, none, none, none, some (.int x7)]) (st' := [(.int (ci 1))]) (h1 := (SH, s37)) rfl ?_
  rw [← Option.some.inj hJ] at hC
  have hC : r = (some (.int (ci 1)), (SH, s37)) := hC
  subst hC
  exact Rn_ret srt251 91 rfl rfl (m_ret_b rfl (by decide))
def F_X12_isMoved_136 (x1 : Int32) (x2 : Int32) (x7 : Int32) (y1 : Int32) (y2 : Int32) (s : mG) : Option (Int32 × mG) :=
  if y1 < 0 ∨ 1894 ≤ y1.toNatClampNeg then none else
  let s32 : mG := (mu s.1 89 y1.toNatClampNeg y2, s.2)
  if x2 = 0 then
    F_X12_isMoved_147 x1 x7 (ci 0) s32
  else
    F_X12_isMoved_147 x1 x7 (ci 1) s32
set_option maxRecDepth 4000 in
theorem k_X12_isMoved_136 {N : Nat} {xs : Nat → Int32} (d : Nat) {r : Option Value × mH} {s : mG} {x1 : Int32} {x2 : Int32} {x7 : Int32} {y1 : Int32} {y2 : Int32} {τ : (Int32 × mG)} (hJ : F_X12_isMoved_136 x1 x2 x7 y1 y2 s = some τ) (hC : (fun τ => r = (some (.int τ.1), (SH, τ.2))) τ) : Rn N xs (d + 5) me251 136 [some (.ref 88), some (.int x1), some (.int x2), none, none, none, none, some (.int x7)] [(.int y2), (.int y1), (.ref 89)] (SH, s) r := by
  unfold F_X12_isMoved_136 at hJ
  obtain ⟨h31, hJ⟩ := m_gn hJ
  extract_lets +onlyGivenNames s32 at hJ
  refine Rn_ev srt251 77 rfl rfl rfl (op_ias sh89 h31 (k := y1.toNatClampNeg) rfl) ?_
  refine Rn_sq srt251 78 3 (pc' := (if x2 = 0 then 146 else 142)) (ls' := [some (.ref 88), some (.int x1), some (.int x2), none, none, none, none, some (.int x7)]) (st' := [(.ref 88)]) (h1 := (SH, s32)) rfl (Rn_if (fun h33 => ?_) (fun h33 => ?_))
  · replace hJ := m_ifp h33 hJ
    refine Rn_sq srt251 83 1 (pc' := 147) (ls' := [some (.ref 88), some (.int x1), some (.int x2), none, none, none, none, some (.int x7)]) (st' := [(.int (ci 0)), (.ref 88)]) (h1 := (SH, s32)) rfl ?_
    exact Rn_weaken (a := [some (.ref 88), some (.int x1), none, none, none, none, none, some (.int x7)]) (b := [some (.ref 88), some (.int x1), some (.int x2), none, none, none, none, some (.int x7)]) (And.intro rfl (And.intro rfl (And.intro rfl trivial))) rfl (k_X12_isMoved_147 d hJ hC)
  · replace hJ := m_ifn h33 hJ
    refine Rn_sq srt251 81 2 (pc' := 147) (ls' := [some (.ref 88), some (.int x1), some (.int x2), none, none, none, none, some (.int x7)]) (st' := [(.int (ci 1)), (.ref 88)]) (h1 := (SH, s32)) rfl ?_
    exact Rn_weaken (a := [some (.ref 88), some (.int x1), none, none, none, none, none, some (.int x7)]) (b := [some (.ref 88), some (.int x1), some (.int x2), none, none, none, none, some (.int x7)]) (And.intro rfl (And.intro rfl (And.intro rfl trivial))) rfl (k_X12_isMoved_147 d hJ hC)
def F_X12_isMoved_110 (x1 : Int32) (x2 : Int32) (x5 : Int32) (x6 : Int32) (x7 : Int32) (y1 : Int32) (y2 : Int32) (s : mG) : Option (Int32 × mG) :=
  if y1 < 0 ∨ 1894 ≤ y1.toNatClampNeg then none else
  let s26 : mG := (mu s.1 89 y1.toNatClampNeg y2, s.2)
  if x2 = 0 then
    b2 (F_X12_hangsOn x1 x5 x6 s26) fun v30 s29 =>
    F_X12_isMoved_136 x1 x2 x7 ((c8 15) + x1) v30 s29
  else
    F_X12_isMoved_136 x1 x2 x7 ((c8 15) + x1) (ci (-1)) s26
set_option maxRecDepth 4000 in
theorem k_X12_isMoved_110 {N : Nat} {xs : Nat → Int32} (d : Nat) {r : Option Value × mH} {s : mG} {x1 : Int32} {x2 : Int32} {x5 : Int32} {x6 : Int32} {x7 : Int32} {y1 : Int32} {y2 : Int32} {τ : (Int32 × mG)} (hJ : F_X12_isMoved_110 x1 x2 x5 x6 x7 y1 y2 s = some τ) (hC : (fun τ => r = (some (.int τ.1), (SH, τ.2))) τ) : Rn N xs (d + 5) me251 110 [some (.ref 88), some (.int x1), some (.int x2), none, none, some (.int x5), some (.int x6), some (.int x7)] [(.int y2), (.int y1), (.ref 89)] (SH, s) r := by
  unfold F_X12_isMoved_110 at hJ
  obtain ⟨h25, hJ⟩ := m_gn hJ
  extract_lets +onlyGivenNames s26 at hJ
  refine Rn_ev srt251 62 rfl rfl rfl (op_ias sh89 h25 (k := y1.toNatClampNeg) rfl) ?_
  refine Rn_sq srt251 63 7 (pc' := (if x2 = 0 then 127 else 123)) (ls' := [some (.ref 88), some (.int x1), some (.int x2), none, none, some (.int x5), some (.int x6), some (.int x7)]) (st' := [(.int ((c8 15) + x1)), (.ref 89)]) (h1 := (SH, s26)) rfl (Rn_if (fun h27 => ?_) (fun h27 => ?_))
  · replace hJ := m_ifp h27 hJ
    refine Rn_sq srt251 72 4 (pc' := 133) (ls' := [some (.ref 88), some (.int x1), some (.int x2), none, none, some (.int x5), some (.int x6), some (.int x7)]) (st' := [(.int x6), (.int x5), (.int x1), (.ref 88), (.int ((c8 15) + x1)), (.ref 89)]) (h1 := (SH, s26)) rfl ?_
    obtain ⟨v30, s29, h28, hJ⟩ := m_b2 hJ
    refine Rn_call srt251 76 rfl rfl rfl ⟨Nat.le_of_ble_eq_true rfl, Nat.le_of_ble_eq_true rfl, rfl, Nat.le_of_ble_eq_true rfl⟩ (k_X12_hangsOn (d + 3) h28) (show Rn N xs (d + 5) me251 136 [some (.ref 88), some (.int x1), some (.int x2), none, none, some (.int x5), some (.int x6), some (.int x7)] [(.int v30), (.int ((c8 15) + x1)), (.ref 89)] (SH, s29) r from ?_)
    exact Rn_weaken (a := [some (.ref 88), some (.int x1), some (.int x2), none, none, none, none, some (.int x7)]) (b := [some (.ref 88), some (.int x1), some (.int x2), none, none, some (.int x5), some (.int x6), some (.int x7)]) (And.intro rfl (And.intro rfl (And.intro rfl (And.intro rfl trivial)))) rfl (k_X12_isMoved_136 d hJ hC)
  · replace hJ := m_ifn h27 hJ
    refine Rn_sq srt251 70 2 (pc' := 136) (ls' := [some (.ref 88), some (.int x1), some (.int x2), none, none, some (.int x5), some (.int x6), some (.int x7)]) (st' := [(.int (ci (-1))), (.int ((c8 15) + x1)), (.ref 89)]) (h1 := (SH, s26)) rfl ?_
    exact Rn_weaken (a := [some (.ref 88), some (.int x1), some (.int x2), none, none, none, none, some (.int x7)]) (b := [some (.ref 88), some (.int x1), some (.int x2), none, none, some (.int x5), some (.int x6), some (.int x7)]) (And.intro rfl (And.intro rfl (And.intro rfl (And.intro rfl trivial)))) rfl (k_X12_isMoved_136 d hJ hC)
def F_X12_isMoved_92 (x1 : Int32) (x2 : Int32) (x5 : Int32) (x6 : Int32) (y0 : Int32) (s : mG) : Option (Int32 × mG) :=
  if x2 = 0 then
    F_X12_isMoved_110 x1 x2 x5 x6 y0 ((ci 3) + x1) (ci 1) s
  else
    F_X12_isMoved_110 x1 x2 x5 x6 y0 ((ci 3) + x1) (ci 0) s
set_option maxRecDepth 4000 in
theorem k_X12_isMoved_92 {N : Nat} {xs : Nat → Int32} (d : Nat) {r : Option Value × mH} {s : mG} {x1 : Int32} {x2 : Int32} {x5 : Int32} {x6 : Int32} {y0 : Int32} {τ : (Int32 × mG)} (hJ : F_X12_isMoved_92 x1 x2 x5 x6 y0 s = some τ) (hC : (fun τ => r = (some (.int τ.1), (SH, τ.2))) τ) : Rn N xs (d + 5) me251 92 [some (.ref 88), some (.int x1), some (.int x2), none, none, some (.int x5), some (.int x6), none] [(.int y0)] (SH, s) r := by
  unfold F_X12_isMoved_92 at hJ
  refine Rn_sq srt251 51 8 (pc' := (if x2 = 0 then 109 else 105)) (ls' := [some (.ref 88), some (.int x1), some (.int x2), none, none, some (.int x5), some (.int x6), some (.int y0)]) (st' := [(.int ((ci 3) + x1)), (.ref 89)]) (h1 := (SH, s)) rfl (Rn_if (fun h24 => ?_) (fun h24 => ?_))
  · replace hJ := m_ifp h24 hJ
    refine Rn_sq srt251 61 1 (pc' := 110) (ls' := [some (.ref 88), some (.int x1), some (.int x2), none, none, some (.int x5), some (.int x6), some (.int y0)]) (st' := [(.int (ci 1)), (.int ((ci 3) + x1)), (.ref 89)]) (h1 := (SH, s)) rfl ?_
    exact (k_X12_isMoved_110 d hJ hC)
  · replace hJ := m_ifn h24 hJ
    refine Rn_sq srt251 59 2 (pc' := 110) (ls' := [some (.ref 88), some (.int x1), some (.int x2), none, none, some (.int x5), some (.int x6), some (.int y0)]) (st' := [(.int (ci 0)), (.int ((ci 3) + x1)), (.ref 89)]) (h1 := (SH, s)) rfl ?_
    exact (k_X12_isMoved_110 d hJ hC)
def F_X12_isMoved_30 (x1 : Int32) (x2 : Int32) (y1 : Int32) (s : mG) : Option (Int32 × mG) :=
  b2 (F_X12_saysNow y1 x1 s) fun v6 s5 =>
  b2 (F_X12_saysNow (c8 24) x1 s5) fun v9 s8 =>
  b2 (F_X12_saysNow (c8 22) x1 s8) fun v12 s11 =>
  b2 (F_X12_saysNow (c8 23) x1 s11) fun v15 s14 =>
  b2 (F_X12_draw (c16 1000) s14) fun v18 s17 =>
  if v18 < v6 then
    b2 (F_X12_draw (c16 1000) s17) fun v22 s21 =>
    if v9 ≤ v22 then
      F_X12_isMoved_92 x1 x2 v12 v15 (ci 1) s21
    else
      F_X12_isMoved_92 x1 x2 v12 v15 (ci 0) s21
  else
    some ((ci 0), s17)
set_option maxRecDepth 4000 in
theorem k_X12_isMoved_30 {N : Nat} {xs : Nat → Int32} (d : Nat) {r : Option Value × mH} {s : mG} {x1 : Int32} {x2 : Int32} {y1 : Int32} {τ : (Int32 × mG)} (hJ : F_X12_isMoved_30 x1 x2 y1 s = some τ) (hC : (fun τ => r = (some (.int τ.1), (SH, τ.2))) τ) : Rn N xs (d + 5) me251 30 [some (.ref 88), some (.int x1), some (.int x2), none, none, none, none, none] [(.int y1), (.ref 88)] (SH, s) r := by
  unfold F_X12_isMoved_30 at hJ
  refine Rn_sq srt251 18 1 (pc' := 31) (ls' := [some (.ref 88), some (.int x1), some (.int x2), none, none, none, none, none]) (st' := [(.int x1), (.int y1), (.ref 88)]) (h1 := (SH, s)) rfl ?_
  obtain ⟨v6, s5, h4, hJ⟩ := m_b2 hJ
  refine Rn_call srt251 19 rfl rfl rfl ⟨Nat.le_of_ble_eq_true rfl, Nat.le_of_ble_eq_true rfl, rfl, Nat.le_of_ble_eq_true rfl⟩ (k_X12_saysNow (d) h4) (show Rn N xs (d + 5) me251 34 [some (.ref 88), some (.int x1), some (.int x2), none, none, none, none, none] [(.int v6)] (SH, s5) r from ?_)
  refine Rn_sq srt251 20 4 (pc' := 39) (ls' := [some (.ref 88), some (.int x1), some (.int x2), some (.int v6), none, none, none, none]) (st' := [(.int x1), (.int (c8 24)), (.ref 88)]) (h1 := (SH, s5)) rfl ?_
  obtain ⟨v9, s8, h7, hJ⟩ := m_b2 hJ
  refine Rn_call srt251 24 rfl rfl rfl ⟨Nat.le_of_ble_eq_true rfl, Nat.le_of_ble_eq_true rfl, rfl, Nat.le_of_ble_eq_true rfl⟩ (k_X12_saysNow (d) h7) (show Rn N xs (d + 5) me251 42 [some (.ref 88), some (.int x1), some (.int x2), some (.int v6), none, none, none, none] [(.int v9)] (SH, s8) r from ?_)
  refine Rn_sq srt251 25 4 (pc' := 48) (ls' := [some (.ref 88), some (.int x1), some (.int x2), some (.int v6), some (.int v9), none, none, none]) (st' := [(.int x1), (.int (c8 22)), (.ref 88)]) (h1 := (SH, s8)) rfl ?_
  obtain ⟨v12, s11, h10, hJ⟩ := m_b2 hJ
  refine Rn_call srt251 29 rfl rfl rfl ⟨Nat.le_of_ble_eq_true rfl, Nat.le_of_ble_eq_true rfl, rfl, Nat.le_of_ble_eq_true rfl⟩ (k_X12_saysNow (d) h10) (show Rn N xs (d + 5) me251 51 [some (.ref 88), some (.int x1), some (.int x2), some (.int v6), some (.int v9), none, none, none] [(.int v12)] (SH, s11) r from ?_)
  refine Rn_sq srt251 30 4 (pc' := 57) (ls' := [some (.ref 88), some (.int x1), some (.int x2), some (.int v6), some (.int v9), some (.int v12), none, none]) (st' := [(.int x1), (.int (c8 23)), (.ref 88)]) (h1 := (SH, s11)) rfl ?_
  obtain ⟨v15, s14, h13, hJ⟩ := m_b2 hJ
  refine Rn_call srt251 34 rfl rfl rfl ⟨Nat.le_of_ble_eq_true rfl, Nat.le_of_ble_eq_true rfl, rfl, Nat.le_of_ble_eq_true rfl⟩ (k_X12_saysNow (d) h13) (show Rn N xs (d + 5) me251 60 [some (.ref 88), some (.int x1), some (.int x2), some (.int v6), some (.int v9), some (.int v12), none, none] [(.int v15)] (SH, s14) r from ?_)
  refine Rn_sq srt251 35 3 (pc' := 66) (ls' := [some (.ref 88), some (.int x1), some (.int x2), some (.int v6), some (.int v9), some (.int v12), some (.int v15), none]) (st' := [(.int (c16 1000)), (.ref 88)]) (h1 := (SH, s14)) rfl ?_
  obtain ⟨v18, s17, h16, hJ⟩ := m_b2 hJ
  refine Rn_call srt251 38 rfl rfl rfl ⟨Nat.le_of_ble_eq_true rfl, Nat.le_of_ble_eq_true rfl, rfl, Nat.le_of_ble_eq_true rfl⟩ (k_X12_draw (d + 4) h16) (show Rn N xs (d + 5) me251 69 [some (.ref 88), some (.int x1), some (.int x2), some (.int v6), some (.int v9), some (.int v12), some (.int v15), none] [(.int v18)] (SH, s17) r from ?_)
  refine Rn_sq srt251 39 2 (pc' := (if v18 < v6 then 75 else 73)) (ls' := [some (.ref 88), some (.int x1), some (.int x2), some (.int v6), some (.int v9), some (.int v12), some (.int v15), none]) (st' := []) (h1 := (SH, s17)) rfl (Rn_if (fun h19 => ?_) (fun h19 => ?_))
  · replace hJ := m_ifp h19 hJ
    refine Rn_sq srt251 43 2 (pc' := 79) (ls' := [some (.ref 88), some (.int x1), some (.int x2), some (.int v6), some (.int v9), some (.int v12), some (.int v15), none]) (st' := [(.int (c16 1000)), (.ref 88)]) (h1 := (SH, s17)) rfl ?_
    obtain ⟨v22, s21, h20, hJ⟩ := m_b2 hJ
    refine Rn_call srt251 45 rfl rfl rfl ⟨Nat.le_of_ble_eq_true rfl, Nat.le_of_ble_eq_true rfl, rfl, Nat.le_of_ble_eq_true rfl⟩ (k_X12_draw (d + 4) h20) (show Rn N xs (d + 5) me251 82 [some (.ref 88), some (.int x1), some (.int x2), some (.int v6), some (.int v9), some (.int v12), some (.int v15), none] [(.int v22)] (SH, s21) r from ?_)
    refine Rn_sq srt251 46 2 (pc' := (if v9 ≤ v22 then 91 else 87)) (ls' := [some (.ref 88), some (.int x1), some (.int x2), some (.int v6), some (.int v9), some (.int v12), some (.int v15), none]) (st' := []) (h1 := (SH, s21)) rfl (Rn_if (fun h23 => ?_) (fun h23 => ?_))
    · replace hJ := m_ifp h23 hJ
      refine Rn_sq srt251 50 1 (pc' := 92) (ls' := [some (.ref 88), some (.int x1), some (.int x2), some (.int v6), some (.int v9), some (.int v12), some (.int v15), none]) (st' := [(.int (ci 1))]) (h1 := (SH, s21)) rfl ?_
      exact Rn_weaken (a := [some (.ref 88), some (.int x1), some (.int x2), none, none, some (.int v12), some (.int v15), none]) (b := [some (.ref 88), some (.int x1), some (.int x2), some (.int v6), some (.int v9), some (.int v12), some (.int v15), none]) (And.intro rfl (And.intro rfl (And.intro rfl (And.intro rfl (And.intro rfl trivial))))) rfl (k_X12_isMoved_92 d hJ hC)
    · replace hJ := m_ifn h23 hJ
      refine Rn_sq srt251 48 2 (pc' := 92) (ls' := [some (.ref 88), some (.int x1), some (.int x2), some (.int v6), some (.int v9), some (.int v12), some (.int v15), none]) (st' := [(.int (ci 0))]) (h1 := (SH, s21)) rfl ?_
      exact Rn_weaken (a := [some (.ref 88), some (.int x1), some (.int x2), none, none, some (.int v12), some (.int v15), none]) (b := [some (.ref 88), some (.int x1), some (.int x2), some (.int v6), some (.int v9), some (.int v12), some (.int v15), none]) (And.intro rfl (And.intro rfl (And.intro rfl (And.intro rfl (And.intro rfl trivial))))) rfl (k_X12_isMoved_92 d hJ hC)
  · replace hJ := m_ifn h19 hJ
    refine Rn_sq srt251 41 1 (pc' := 74) (ls' := [some (.ref 88), some (.int x1), some (.int x2), some (.int v6), some (.int v9), some (.int v12), some (.int v15), none]) (st' := [(.int (ci 0))]) (h1 := (SH, s17)) rfl ?_
    rw [← Option.some.inj hJ] at hC
    have hC : r = (some (.int (ci 0)), (SH, s17)) := hC
    subst hC
    exact Rn_ret srt251 42 rfl rfl (m_ret_b rfl (by decide))
def F_X12_isMoved_17 (x1 : Int32) (y0 : Int32) (s : mG) : Option (Int32 × mG) :=
  if y0 = 0 then
    F_X12_isMoved_30 x1 y0 (c8 20) s
  else
    F_X12_isMoved_30 x1 y0 (c8 21) s
set_option maxRecDepth 4000 in
theorem k_X12_isMoved_17 {N : Nat} {xs : Nat → Int32} (d : Nat) {r : Option Value × mH} {s : mG} {x1 : Int32} {y0 : Int32} {τ : (Int32 × mG)} (hJ : F_X12_isMoved_17 x1 y0 s = some τ) (hC : (fun τ => r = (some (.int τ.1), (SH, τ.2))) τ) : Rn N xs (d + 5) me251 17 [some (.ref 88), some (.int x1), none, none, none, none, none, none] [(.int y0)] (SH, s) r := by
  unfold F_X12_isMoved_17 at hJ
  refine Rn_sq srt251 11 4 (pc' := (if y0 = 0 then 28 else 23)) (ls' := [some (.ref 88), some (.int x1), some (.int y0), none, none, none, none, none]) (st' := [(.ref 88)]) (h1 := (SH, s)) rfl (Rn_if (fun h3 => ?_) (fun h3 => ?_))
  · replace hJ := m_ifp h3 hJ
    refine Rn_sq srt251 17 1 (pc' := 30) (ls' := [some (.ref 88), some (.int x1), some (.int y0), none, none, none, none, none]) (st' := [(.int (c8 20)), (.ref 88)]) (h1 := (SH, s)) rfl ?_
    exact (k_X12_isMoved_30 d hJ hC)
  · replace hJ := m_ifn h3 hJ
    refine Rn_sq srt251 15 2 (pc' := 30) (ls' := [some (.ref 88), some (.int x1), some (.int y0), none, none, none, none, none]) (st' := [(.int (c8 21)), (.ref 88)]) (h1 := (SH, s)) rfl ?_
    exact (k_X12_isMoved_30 d hJ hC)
def F_X12_isMoved (a1 : Int32) (s : mG) : Option (Int32 × mG) :=
  if ((ci 3) + a1) < 0 ∨ 1894 ≤ ((ci 3) + a1).toNatClampNeg then none else
  if (s.1 89 ((ci 3) + a1).toNatClampNeg) = (ci 1) then
    F_X12_isMoved_17 a1 (ci 1) s
  else
    F_X12_isMoved_17 a1 (ci 0) s
set_option maxRecDepth 4000 in
theorem k_X12_isMoved_r {N : Nat} {xs : Nat → Int32} (d : Nat) {r : Option Value × mH} {s : mG} {a1 : Int32} {τ : (Int32 × mG)} (hJ : F_X12_isMoved a1 s = some τ) (hC : (fun τ => r = (some (.int τ.1), (SH, τ.2))) τ) : Rn N xs (d + 5) me251 0 [some (.ref 88), some (.int a1), none, none, none, none, none, none] [] (SH, s) r := by
  unfold F_X12_isMoved at hJ
  refine Rn_sq srt251 0 5 (pc' := 7) (ls' := [some (.ref 88), some (.int a1), none, none, none, none, none, none]) (st' := [(.int ((ci 3) + a1)), (.ref 89)]) (h1 := (SH, s)) rfl ?_
  obtain ⟨h1, hJ⟩ := m_gn hJ
  refine Rn_ev srt251 5 rfl rfl rfl (op_ia sh89 h1 (k := ((ci 3) + a1).toNatClampNeg) rfl) ?_
  refine Rn_sq srt251 6 2 (pc' := (if (s.1 89 ((ci 3) + a1).toNatClampNeg) = (ci 1) then 12 else 16)) (ls' := [some (.ref 88), some (.int a1), none, none, none, none, none, none]) (st' := []) (h1 := (SH, s)) rfl (Rn_if (fun h2 => ?_) (fun h2 => ?_))
  · replace hJ := m_ifp h2 hJ
    refine Rn_sq srt251 8 2 (pc' := 17) (ls' := [some (.ref 88), some (.int a1), none, none, none, none, none, none]) (st' := [(.int (ci 1))]) (h1 := (SH, s)) rfl ?_
    exact (k_X12_isMoved_17 d hJ hC)
  · replace hJ := m_ifn h2 hJ
    refine Rn_sq srt251 10 1 (pc' := 17) (ls' := [some (.ref 88), some (.int a1), none, none, none, none, none, none]) (st' := [(.int (ci 0))]) (h1 := (SH, s)) rfl ?_
    exact (k_X12_isMoved_17 d hJ hC)
theorem k_X12_isMoved {N : Nat} {xs : Nat → Int32} (d : Nat) {s : mG} {a1 : Int32} {τ : (Int32 × mG)} (hJ : F_X12_isMoved a1 s = some τ) : Rn N xs (d + 5) me251 0 [some (.ref 88), some (.int a1), none, none, none, none, none, none] [] (SH, s) (some (.int τ.1), (SH, τ.2)) := k_X12_isMoved_r d hJ rfl
/-! IsHeInModel.anHour()I -/
theorem srt252 : m_srt mc252 = true := by decide +kernel
def C_X12_anHour_4 (N : Nat) (xs : Nat → Int32) (d : Nat) (r : Option Value × mH) (C : (Int32 × mG) → Prop) : ((Int32 × Int32 × mG) ⊕ (Int32 × mG)) → Prop
  | .inl v => Rn N xs (d + 6) me252 4 [some (.ref 88), some (.int v.1), some (.int v.2.1), none] [] (SH, v.2.2) r
  | .inr a => C a
def F_X12_anHour_65 (x2 : Int32) (y0 : Int32) (y1 : Int32) (s : mG) : Option ((Int32 × Int32 × mG) ⊕ (Int32 × mG)) :=
  some (Sum.inl ((y0 + y1), (x2 + ci 1), s))
set_option maxRecDepth 4000 in
theorem k_X12_anHour_65 {N : Nat} {xs : Nat → Int32} (d : Nat) {r : Option Value × mH} {s : mG} {x2 : Int32} {y0 : Int32} {y1 : Int32} {τ : ((Int32 × Int32 × mG) ⊕ (Int32 × mG))} (hJ : F_X12_anHour_65 x2 y0 y1 s = some τ) (hC : (C_X12_anHour_4 N xs d r (fun τ => r = (some (.int τ.1), (SH, τ.2)))) τ) : Rn N xs (d + 6) me252 65 [some (.ref 88), none, some (.int x2), none] [(.int y1), (.int y0)] (SH, s) r := by
  unfold F_X12_anHour_65 at hJ
  refine Rn_sq srt252 40 4 (pc' := 4) (ls' := [some (.ref 88), some (.int (y0 + y1)), some (.int (x2 + ci 1)), none]) (st' := []) (h1 := (SH, s)) rfl ?_
  rw [← Option.some.inj hJ] at hC
  exact hC
def F_X12_anHour_54 (x1 : Int32) (x2 : Int32) (x3 : Int32) (y1 : Int32) (y2 : Int32) (s : mG) : Option ((Int32 × Int32 × mG) ⊕ (Int32 × mG)) :=
  if y1 < 0 ∨ 1894 ≤ y1.toNatClampNeg then none else
  let s11 : mG := (mu s.1 89 y1.toNatClampNeg y2, s.2)
  if x3 = 0 then
    F_X12_anHour_65 x2 x1 (ci 0) s11
  else
    F_X12_anHour_65 x2 x1 (ci 1) s11
set_option maxRecDepth 4000 in
theorem k_X12_anHour_54 {N : Nat} {xs : Nat → Int32} (d : Nat) {r : Option Value × mH} {s : mG} {x1 : Int32} {x2 : Int32} {x3 : Int32} {y1 : Int32} {y2 : Int32} {τ : ((Int32 × Int32 × mG) ⊕ (Int32 × mG))} (hJ : F_X12_anHour_54 x1 x2 x3 y1 y2 s = some τ) (hC : (C_X12_anHour_4 N xs d r (fun τ => r = (some (.int τ.1), (SH, τ.2)))) τ) : Rn N xs (d + 6) me252 54 [some (.ref 88), some (.int x1), some (.int x2), some (.int x3)] [(.int y2), (.int y1), (.ref 89)] (SH, s) r := by
  unfold F_X12_anHour_54 at hJ
  obtain ⟨h10, hJ⟩ := m_gn hJ
  extract_lets +onlyGivenNames s11 at hJ
  refine Rn_ev srt252 33 rfl rfl rfl (op_ias sh89 h10 (k := y1.toNatClampNeg) rfl) ?_
  refine Rn_sq srt252 34 3 (pc' := (if x3 = 0 then 64 else 60)) (ls' := [some (.ref 88), some (.int x1), some (.int x2), some (.int x3)]) (st' := [(.int x1)]) (h1 := (SH, s11)) rfl (Rn_if (fun h12 => ?_) (fun h12 => ?_))
  · replace hJ := m_ifp h12 hJ
    refine Rn_sq srt252 39 1 (pc' := 65) (ls' := [some (.ref 88), some (.int x1), some (.int x2), some (.int x3)]) (st' := [(.int (ci 0)), (.int x1)]) (h1 := (SH, s11)) rfl ?_
    exact Rn_weaken (a := [some (.ref 88), none, some (.int x2), none]) (b := [some (.ref 88), some (.int x1), some (.int x2), some (.int x3)]) (And.intro rfl (And.intro rfl trivial)) rfl (k_X12_anHour_65 d hJ hC)
  · replace hJ := m_ifn h12 hJ
    refine Rn_sq srt252 37 2 (pc' := 65) (ls' := [some (.ref 88), some (.int x1), some (.int x2), some (.int x3)]) (st' := [(.int (ci 1)), (.int x1)]) (h1 := (SH, s11)) rfl ?_
    exact Rn_weaken (a := [some (.ref 88), none, some (.int x2), none]) (b := [some (.ref 88), some (.int x1), some (.int x2), some (.int x3)]) (And.intro rfl (And.intro rfl trivial)) rfl (k_X12_anHour_65 d hJ hC)
def F_X12_anHour_B4 (x1 : Int32) (x2 : Int32) (s : mG) : Option ((Int32 × Int32 × mG) ⊕ (Int32 × mG)) :=
  if (s.1 89 112) ≤ x2 then
    let s2 : mG := (mu s.1 89 0 ((s.1 89 0) + (ci 1)), s.2)
    some (Sum.inr (x1, s2))
  else
    b2 (F_X12_isMoved x2 s) fun v5 s4 =>
    if v5 = 0 then
      if ((c8 27) + x2) < 0 ∨ 1894 ≤ ((c8 27) + x2).toNatClampNeg then none else
      b1 (F_X12_lesser s4 (c16 999) ((s4.1 89 ((c8 27) + x2).toNatClampNeg) + (ci 1))) fun v9 =>
      F_X12_anHour_54 x1 x2 v5 ((c8 27) + x2) v9 s4
    else
      F_X12_anHour_54 x1 x2 v5 ((c8 27) + x2) (ci 0) s4
set_option maxRecDepth 4000 in
theorem k_X12_anHour_B4 {N : Nat} {xs : Nat → Int32} (d : Nat) {r : Option Value × mH} {s : mG} {x1 : Int32} {x2 : Int32} {τ : ((Int32 × Int32 × mG) ⊕ (Int32 × mG))} (hJ : F_X12_anHour_B4 x1 x2 s = some τ) (hC : (C_X12_anHour_4 N xs d r (fun τ => r = (some (.int τ.1), (SH, τ.2)))) τ) : Rn N xs (d + 6) me252 4 [some (.ref 88), some (.int x1), some (.int x2), none] [] (SH, s) r := by
  unfold F_X12_anHour_B4 at hJ
  refine Rn_sq srt252 4 4 (pc' := 11) (ls' := [some (.ref 88), some (.int x1), some (.int x2), none]) (st' := [(.int (c8 112)), (.ref 89), (.int x2)]) (h1 := (SH, s)) rfl ?_
  refine Rn_ev srt252 8 rfl rfl rfl (op_ia sh89 (by decide) (k := 112) rfl) ?_
  refine Rn_sq srt252 9 1 (pc' := (if (s.1 89 112) ≤ x2 then 73 else 15)) (ls' := [some (.ref 88), some (.int x1), some (.int x2), none]) (st' := []) (h1 := (SH, s)) rfl (Rn_if (fun h1 => ?_) (fun h1 => ?_))
  · replace hJ := m_ifp h1 hJ
    refine Rn_sq srt252 44 4 (pc' := 79) (ls' := [some (.ref 88), some (.int x1), some (.int x2), none]) (st' := [(.int (ci 0)), (.ref 89), (.int (ci 0)), (.ref 89)]) (h1 := (SH, s)) rfl ?_
    refine Rn_ev srt252 48 rfl rfl rfl (op_ia sh89 (by decide) (k := 0) rfl) ?_
    refine Rn_sq srt252 49 2 (pc' := 82) (ls' := [some (.ref 88), some (.int x1), some (.int x2), none]) (st' := [(.int ((s.1 89 0) + (ci 1))), (.int (ci 0)), (.ref 89)]) (h1 := (SH, s)) rfl ?_
    extract_lets +onlyGivenNames s2 at hJ
    refine Rn_ev srt252 51 rfl rfl rfl (op_ias sh89 (by decide) (k := 0) rfl) ?_
    refine Rn_sq srt252 52 1 (pc' := 84) (ls' := [some (.ref 88), some (.int x1), some (.int x2), none]) (st' := [(.int x1)]) (h1 := (SH, s2)) rfl ?_
    rw [← Option.some.inj hJ] at hC
    have hC : r = (some (.int x1), (SH, s2)) := hC
    subst hC
    exact Rn_ret srt252 53 rfl rfl rfl
  · replace hJ := m_ifn h1 hJ
    refine Rn_sq srt252 10 2 (pc' := 17) (ls' := [some (.ref 88), some (.int x1), some (.int x2), none]) (st' := [(.int x2), (.ref 88)]) (h1 := (SH, s)) rfl ?_
    obtain ⟨v5, s4, h3, hJ⟩ := m_b2 hJ
    refine Rn_call srt252 12 rfl rfl rfl ⟨Nat.le_of_ble_eq_true rfl, Nat.le_of_ble_eq_true rfl, rfl, Nat.le_of_ble_eq_true rfl⟩ (k_X12_isMoved (d) h3) (show Rn N xs (d + 6) me252 20 [some (.ref 88), some (.int x1), some (.int x2), none] [(.int v5)] (SH, s4) r from ?_)
    refine Rn_sq srt252 13 8 (pc' := (if v5 = 0 then 37 else 33)) (ls' := [some (.ref 88), some (.int x1), some (.int x2), some (.int v5)]) (st' := [(.int ((c8 27) + x2)), (.ref 89)]) (h1 := (SH, s4)) rfl (Rn_if (fun h6 => ?_) (fun h6 => ?_))
    · replace hJ := m_ifp h6 hJ
      refine Rn_sq srt252 23 6 (pc' := 48) (ls' := [some (.ref 88), some (.int x1), some (.int x2), some (.int v5)]) (st' := [(.int ((c8 27) + x2)), (.ref 89), (.int (c16 999)), (.int ((c8 27) + x2)), (.ref 89)]) (h1 := (SH, s4)) rfl ?_
      obtain ⟨h7, hJ⟩ := m_gn hJ
      refine Rn_ev srt252 29 rfl rfl rfl (op_ia sh89 h7 (k := ((c8 27) + x2).toNatClampNeg) rfl) ?_
      refine Rn_sq srt252 30 2 (pc' := 51) (ls' := [some (.ref 88), some (.int x1), some (.int x2), some (.int v5)]) (st' := [(.int ((s4.1 89 ((c8 27) + x2).toNatClampNeg) + (ci 1))), (.int (c16 999)), (.int ((c8 27) + x2)), (.ref 89)]) (h1 := (SH, s4)) rfl ?_
      obtain ⟨v9, h8, hJ⟩ := m_b1 hJ
      refine Rn_call srt252 32 rfl rfl rfl ⟨Nat.le_of_ble_eq_true rfl, Nat.le_of_ble_eq_true rfl, rfl, Nat.le_of_ble_eq_true rfl⟩ (k_X12_lesser (d + 5) h8) (show Rn N xs (d + 6) me252 54 [some (.ref 88), some (.int x1), some (.int x2), some (.int v5)] [(.int v9), (.int ((c8 27) + x2)), (.ref 89)] (SH, s4) r from ?_)
      exact (k_X12_anHour_54 d hJ hC)
    · replace hJ := m_ifn h6 hJ
      refine Rn_sq srt252 21 2 (pc' := 54) (ls' := [some (.ref 88), some (.int x1), some (.int x2), some (.int v5)]) (st' := [(.int (ci 0)), (.int ((c8 27) + x2)), (.ref 89)]) (h1 := (SH, s4)) rfl ?_
      exact (k_X12_anHour_54 d hJ hC)
def F_X12_anHour_L4 (x1 : Int32) (x2 : Int32) (s : mG) : Option (Int32 × mG) := whl (fun (v : (Int32 × Int32 × mG)) => F_X12_anHour_B4 v.1 v.2.1 v.2.2) (x1, x2, s)
theorem k_X12_anHour_L4 {N : Nat} {xs : Nat → Int32} (d : Nat) {r : Option Value × mH} {s : mG} {x1 : Int32} {x2 : Int32} {τ : (Int32 × mG)} (hJ : F_X12_anHour_L4 x1 x2 s = some τ) (hC : (fun τ => r = (some (.int τ.1), (SH, τ.2))) τ) : Rn N xs (d + 6) me252 4 [some (.ref 88), some (.int x1), some (.int x2), none] [] (SH, s) r :=
  whl_link (P := fun (v : (Int32 × Int32 × mG)) => Rn N xs (d + 6) me252 4 [some (.ref 88), some (.int v.1), some (.int v.2.1), none] [] (SH, v.2.2) r) (C := (C_X12_anHour_4 N xs d r (fun τ => r = (some (.int τ.1), (SH, τ.2))))) (fun v τ h1 h2 => k_X12_anHour_B4 d h1 h2) (fun _ h => h) (fun _ h => h) _ _ hJ hC
def F_X12_anHour (s : mG) : Option (Int32 × mG) :=
  F_X12_anHour_L4 (ci 0) (ci 0) s
set_option maxRecDepth 4000 in
theorem k_X12_anHour_r {N : Nat} {xs : Nat → Int32} (d : Nat) {r : Option Value × mH} {s : mG} {τ : (Int32 × mG)} (hJ : F_X12_anHour s = some τ) (hC : (fun τ => r = (some (.int τ.1), (SH, τ.2))) τ) : Rn N xs (d + 6) me252 0 [some (.ref 88), none, none, none] [] (SH, s) r := by
  unfold F_X12_anHour at hJ
  refine Rn_sq srt252 0 4 (pc' := 4) (ls' := [some (.ref 88), some (.int (ci 0)), some (.int (ci 0)), none]) (st' := []) (h1 := (SH, s)) rfl ?_
  exact (k_X12_anHour_L4 d hJ hC)
theorem k_X12_anHour {N : Nat} {xs : Nat → Int32} (d : Nat) {s : mG} {τ : (Int32 × mG)} (hJ : F_X12_anHour s = some τ) : Rn N xs (d + 6) me252 0 [some (.ref 88), none, none, none] [] (SH, s) (some (.int τ.1), (SH, τ.2)) := k_X12_anHour_r d hJ rfl
/-! IsHeInModel.hours(I)I -/
theorem srt253 : m_srt mc253 = true := by decide +kernel
def F_X12_hours_24 (s : mG) : Option (Int32 × mG) :=
  some ((ci (-1)), s)
set_option maxRecDepth 4000 in
theorem k_X12_hours_24 {N : Nat} {xs : Nat → Int32} (d : Nat) {r : Option Value × mH} {s : mG} {τ : (Int32 × mG)} (hJ : F_X12_hours_24 s = some τ) (hC : (fun τ => r = (some (.int τ.1), (SH, τ.2))) τ) : Rn N xs (d + 7) me253 24 [none, none, none, none] [] (SH, s) r := by
  unfold F_X12_hours_24 at hJ
  refine Rn_sq srt253 13 1 (pc' := 25) (ls' := [none, none, none, none]) (st' := [(.int (ci (-1)))]) (h1 := (SH, s)) rfl ?_
  rw [← Option.some.inj hJ] at hC
  have hC : r = (some (.int (ci (-1))), (SH, s)) := hC
  subst hC
  exact Rn_ret srt253 14 rfl rfl rfl
def C_X12_hours_30 (N : Nat) (xs : Nat → Int32) (d : Nat) (r : Option Value × mH) (C : (Int32 × mG) → Prop) : ((Int32 × Int32 × Int32 × mG) ⊕ (Int32 × mG)) → Prop
  | .inl v => Rn N xs (d + 7) me253 30 [some (.ref 88), some (.int v.1), some (.int v.2.1), some (.int v.2.2.1)] [] (SH, v.2.2.2) r
  | .inr a => C a
def F_X12_hours_B30 (x1 : Int32) (x2 : Int32) (x3 : Int32) (s : mG) : Option ((Int32 × Int32 × Int32 × mG) ⊕ (Int32 × mG)) :=
  if x1 ≤ x3 then
    some (Sum.inr (x2, s))
  else
    b1 (F_X12_keeps s) fun s7 =>
    b2 (F_X12_anHour s7) fun v10 s9 =>
    some (Sum.inl (x1, (x2 + v10), (x3 + ci 1), s9))
set_option maxRecDepth 4000 in
theorem k_X12_hours_B30 {N : Nat} {xs : Nat → Int32} (d : Nat) {r : Option Value × mH} {s : mG} {x1 : Int32} {x2 : Int32} {x3 : Int32} {τ : ((Int32 × Int32 × Int32 × mG) ⊕ (Int32 × mG))} (hJ : F_X12_hours_B30 x1 x2 x3 s = some τ) (hC : (C_X12_hours_30 N xs d r (fun τ => r = (some (.int τ.1), (SH, τ.2)))) τ) : Rn N xs (d + 7) me253 30 [some (.ref 88), some (.int x1), some (.int x2), some (.int x3)] [] (SH, s) r := by
  unfold F_X12_hours_B30 at hJ
  refine Rn_sq srt253 19 3 (pc' := (if x1 ≤ x3 then 52 else 35)) (ls' := [some (.ref 88), some (.int x1), some (.int x2), some (.int x3)]) (st' := []) (h1 := (SH, s)) rfl (Rn_if (fun h5 => ?_) (fun h5 => ?_))
  · replace hJ := m_ifp h5 hJ
    refine Rn_sq srt253 31 1 (pc' := 53) (ls' := [some (.ref 88), some (.int x1), some (.int x2), some (.int x3)]) (st' := [(.int x2)]) (h1 := (SH, s)) rfl ?_
    rw [← Option.some.inj hJ] at hC
    have hC : r = (some (.int x2), (SH, s)) := hC
    subst hC
    exact Rn_ret srt253 32 rfl rfl rfl
  · replace hJ := m_ifn h5 hJ
    refine Rn_sq srt253 22 1 (pc' := 36) (ls' := [some (.ref 88), some (.int x1), some (.int x2), some (.int x3)]) (st' := [(.ref 88)]) (h1 := (SH, s)) rfl ?_
    obtain ⟨s7, h6, hJ⟩ := m_b1 hJ
    refine Rn_call srt253 23 rfl rfl rfl ⟨Nat.le_of_ble_eq_true rfl, Nat.le_of_ble_eq_true rfl, rfl, Nat.le_of_ble_eq_true rfl⟩ (k_X12_keeps (d + 6) h6) (show Rn N xs (d + 7) me253 39 [some (.ref 88), some (.int x1), some (.int x2), some (.int x3)] [] (SH, s7) r from ?_)
    refine Rn_sq srt253 24 2 (pc' := 41) (ls' := [some (.ref 88), some (.int x1), some (.int x2), some (.int x3)]) (st' := [(.ref 88), (.int x2)]) (h1 := (SH, s7)) rfl ?_
    obtain ⟨v10, s9, h8, hJ⟩ := m_b2 hJ
    refine Rn_call srt253 26 rfl rfl rfl ⟨Nat.le_of_ble_eq_true rfl, Nat.le_of_ble_eq_true rfl, rfl, Nat.le_of_ble_eq_true rfl⟩ (k_X12_anHour (d) h8) (show Rn N xs (d + 7) me253 44 [some (.ref 88), some (.int x1), some (.int x2), some (.int x3)] [(.int v10), (.int x2)] (SH, s9) r from ?_)
    refine Rn_sq srt253 27 4 (pc' := 30) (ls' := [some (.ref 88), some (.int x1), some (.int (x2 + v10)), some (.int (x3 + ci 1))]) (st' := []) (h1 := (SH, s9)) rfl ?_
    rw [← Option.some.inj hJ] at hC
    exact hC
def F_X12_hours_L30 (x1 : Int32) (x2 : Int32) (x3 : Int32) (s : mG) : Option (Int32 × mG) := whl (fun (v : (Int32 × Int32 × Int32 × mG)) => F_X12_hours_B30 v.1 v.2.1 v.2.2.1 v.2.2.2) (x1, x2, x3, s)
theorem k_X12_hours_L30 {N : Nat} {xs : Nat → Int32} (d : Nat) {r : Option Value × mH} {s : mG} {x1 : Int32} {x2 : Int32} {x3 : Int32} {τ : (Int32 × mG)} (hJ : F_X12_hours_L30 x1 x2 x3 s = some τ) (hC : (fun τ => r = (some (.int τ.1), (SH, τ.2))) τ) : Rn N xs (d + 7) me253 30 [some (.ref 88), some (.int x1), some (.int x2), some (.int x3)] [] (SH, s) r :=
  whl_link (P := fun (v : (Int32 × Int32 × Int32 × mG)) => Rn N xs (d + 7) me253 30 [some (.ref 88), some (.int v.1), some (.int v.2.1), some (.int v.2.2.1)] [] (SH, v.2.2.2) r) (C := (C_X12_hours_30 N xs d r (fun τ => r = (some (.int τ.1), (SH, τ.2))))) (fun v τ h1 h2 => k_X12_hours_B30 d h1 h2) (fun _ h => h) (fun _ h => h) _ _ hJ hC
def F_X12_hours (a1 : Int32) (s : mG) : Option (Int32 × mG) :=
  b1 (F_X12_isIn s a1 (ci 1) (c8 60)) fun v2 =>
  if v2 = 0 then
    F_X12_hours_24 s
  else
    if ((s.1 89 0) + a1) ≤ (c16 9999) then
      F_X12_hours_L30 a1 (ci 0) (ci 0) s
    else
      F_X12_hours_24 s
set_option maxRecDepth 4000 in
theorem k_X12_hours_r {N : Nat} {xs : Nat → Int32} (d : Nat) {r : Option Value × mH} {s : mG} {a1 : Int32} {τ : (Int32 × mG)} (hJ : F_X12_hours a1 s = some τ) (hC : (fun τ => r = (some (.int τ.1), (SH, τ.2))) τ) : Rn N xs (d + 7) me253 0 [some (.ref 88), some (.int a1), none, none] [] (SH, s) r := by
  unfold F_X12_hours at hJ
  refine Rn_sq srt253 0 3 (pc' := 4) (ls' := [some (.ref 88), some (.int a1), none, none]) (st' := [(.int (c8 60)), (.int (ci 1)), (.int a1)]) (h1 := (SH, s)) rfl ?_
  obtain ⟨v2, h1, hJ⟩ := m_b1 hJ
  refine Rn_call srt253 3 rfl rfl rfl ⟨Nat.le_of_ble_eq_true rfl, Nat.le_of_ble_eq_true rfl, rfl, Nat.le_of_ble_eq_true rfl⟩ (k_X12_isIn (d + 6) h1) (show Rn N xs (d + 7) me253 7 [some (.ref 88), some (.int a1), none, none] [(.int v2)] (SH, s) r from ?_)
  refine Rn_sq srt253 4 1 (pc' := (if v2 = 0 then 24 else 10)) (ls' := [some (.ref 88), some (.int a1), none, none]) (st' := []) (h1 := (SH, s)) rfl (Rn_if (fun h3 => ?_) (fun h3 => ?_))
  · replace hJ := m_ifp h3 hJ
    exact Rn_weaken (a := [none, none, none, none]) (b := [some (.ref 88), some (.int a1), none, none]) trivial rfl (k_X12_hours_24 d hJ hC)
  · replace hJ := m_ifn h3 hJ
    refine Rn_sq srt253 5 3 (pc' := 15) (ls' := [some (.ref 88), some (.int a1), none, none]) (st' := [(.int (ci 0)), (.ref 89)]) (h1 := (SH, s)) rfl ?_
    refine Rn_ev srt253 8 rfl rfl rfl (op_ia sh89 (by decide) (k := 0) rfl) ?_
    refine Rn_sq srt253 9 4 (pc' := (if ((s.1 89 0) + a1) ≤ (c16 9999) then 26 else 24)) (ls' := [some (.ref 88), some (.int a1), none, none]) (st' := []) (h1 := (SH, s)) rfl (Rn_if (fun h4 => ?_) (fun h4 => ?_))
    · replace hJ := m_ifp h4 hJ
      refine Rn_sq srt253 15 4 (pc' := 30) (ls' := [some (.ref 88), some (.int a1), some (.int (ci 0)), some (.int (ci 0))]) (st' := []) (h1 := (SH, s)) rfl ?_
      exact (k_X12_hours_L30 d hJ hC)
    · replace hJ := m_ifn h4 hJ
      exact Rn_weaken (a := [none, none, none, none]) (b := [some (.ref 88), some (.int a1), none, none]) trivial rfl (k_X12_hours_24 d hJ hC)
theorem k_X12_hours {N : Nat} {xs : Nat → Int32} (d : Nat) {s : mG} {a1 : Int32} {τ : (Int32 × mG)} (hJ : F_X12_hours a1 s = some τ) : Rn N xs (d + 7) me253 0 [some (.ref 88), some (.int a1), none, none] [] (SH, s) (some (.int τ.1), (SH, τ.2)) := k_X12_hours_r d hJ rfl
/-! IsHeInModel.hang(II)Z -/
theorem srt254 : m_srt mc254 = true := by decide +kernel
def F_X12_hang_36 (s : mG) : Option (Int32 × mG) :=
  some ((ci 0), s)
set_option maxRecDepth 4000 in
theorem k_X12_hang_36 {N : Nat} {xs : Nat → Int32} (d : Nat) {r : Option Value × mH} {s : mG} {τ : (Int32 × mG)} (hJ : F_X12_hang_36 s = some τ) (hC : (fun τ => r = (some (.int τ.1), (SH, τ.2))) τ) : Rn N xs (d + 2) me254 36 [none, none, none] [] (SH, s) r := by
  unfold F_X12_hang_36 at hJ
  refine Rn_sq srt254 20 1 (pc' := 37) (ls' := [none, none, none]) (st' := [(.int (ci 0))]) (h1 := (SH, s)) rfl ?_
  rw [← Option.some.inj hJ] at hC
  have hC : r = (some (.int (ci 0)), (SH, s)) := hC
  subst hC
  exact Rn_ret srt254 21 rfl rfl (m_ret_b rfl (by decide))
def F_X12_hang (a1 : Int32) (a2 : Int32) (s : mG) : Option (Int32 × mG) :=
  b1 (F_X12_isGuest s a1) fun v2 =>
  if v2 = 0 then
    F_X12_hang_36 s
  else
    b1 (F_X12_isGuest s a2) fun v5 =>
    if v5 = 0 then
      F_X12_hang_36 s
    else
      if ((ci 3) + a1) < 0 ∨ 1894 ≤ ((ci 3) + a1).toNatClampNeg then none else
      if (s.1 89 ((ci 3) + a1).toNatClampNeg) = 0 then
        F_X12_hang_36 s
      else
        b1 (F_X12_keyOn s a2) fun v10 =>
        if v10 = (ci (-1)) then
          b1 (F_X12_keeps s) fun s13 =>
          if ((c8 15) + a1) < 0 ∨ 1894 ≤ ((c8 15) + a1).toNatClampNeg then none else
          let s15 : mG := (mu s13.1 89 ((c8 15) + a1).toNatClampNeg a2, s13.2)
          b1 (F_X12_notes (ci 2) a1 a2 (ci (-1)) s15) fun s17 =>
          some ((ci 1), s17)
        else
          F_X12_hang_36 s
set_option maxRecDepth 4000 in
theorem k_X12_hang_r {N : Nat} {xs : Nat → Int32} (d : Nat) {r : Option Value × mH} {s : mG} {a1 : Int32} {a2 : Int32} {τ : (Int32 × mG)} (hJ : F_X12_hang a1 a2 s = some τ) (hC : (fun τ => r = (some (.int τ.1), (SH, τ.2))) τ) : Rn N xs (d + 2) me254 0 [some (.ref 88), some (.int a1), some (.int a2)] [] (SH, s) r := by
  unfold F_X12_hang at hJ
  refine Rn_sq srt254 0 2 (pc' := 2) (ls' := [some (.ref 88), some (.int a1), some (.int a2)]) (st' := [(.int a1), (.ref 88)]) (h1 := (SH, s)) rfl ?_
  obtain ⟨v2, h1, hJ⟩ := m_b1 hJ
  refine Rn_call srt254 2 rfl rfl rfl ⟨Nat.le_of_ble_eq_true rfl, Nat.le_of_ble_eq_true rfl, rfl, Nat.le_of_ble_eq_true rfl⟩ (k_X12_isGuest (d) h1) (show Rn N xs (d + 2) me254 5 [some (.ref 88), some (.int a1), some (.int a2)] [(.int v2)] (SH, s) r from ?_)
  refine Rn_sq srt254 3 1 (pc' := (if v2 = 0 then 36 else 8)) (ls' := [some (.ref 88), some (.int a1), some (.int a2)]) (st' := []) (h1 := (SH, s)) rfl (Rn_if (fun h3 => ?_) (fun h3 => ?_))
  · replace hJ := m_ifp h3 hJ
    exact Rn_weaken (a := [none, none, none]) (b := [some (.ref 88), some (.int a1), some (.int a2)]) trivial rfl (k_X12_hang_36 d hJ hC)
  · replace hJ := m_ifn h3 hJ
    refine Rn_sq srt254 4 2 (pc' := 10) (ls' := [some (.ref 88), some (.int a1), some (.int a2)]) (st' := [(.int a2), (.ref 88)]) (h1 := (SH, s)) rfl ?_
    obtain ⟨v5, h4, hJ⟩ := m_b1 hJ
    refine Rn_call srt254 6 rfl rfl rfl ⟨Nat.le_of_ble_eq_true rfl, Nat.le_of_ble_eq_true rfl, rfl, Nat.le_of_ble_eq_true rfl⟩ (k_X12_isGuest (d) h4) (show Rn N xs (d + 2) me254 13 [some (.ref 88), some (.int a1), some (.int a2)] [(.int v5)] (SH, s) r from ?_)
    refine Rn_sq srt254 7 1 (pc' := (if v5 = 0 then 36 else 16)) (ls' := [some (.ref 88), some (.int a1), some (.int a2)]) (st' := []) (h1 := (SH, s)) rfl (Rn_if (fun h6 => ?_) (fun h6 => ?_))
    · replace hJ := m_ifp h6 hJ
      exact Rn_weaken (a := [none, none, none]) (b := [some (.ref 88), some (.int a1), some (.int a2)]) trivial rfl (k_X12_hang_36 d hJ hC)
    · replace hJ := m_ifn h6 hJ
      refine Rn_sq srt254 8 5 (pc' := 23) (ls' := [some (.ref 88), some (.int a1), some (.int a2)]) (st' := [(.int ((ci 3) + a1)), (.ref 89)]) (h1 := (SH, s)) rfl ?_
      obtain ⟨h7, hJ⟩ := m_gn hJ
      refine Rn_ev srt254 13 rfl rfl rfl (op_ia sh89 h7 (k := ((ci 3) + a1).toNatClampNeg) rfl) ?_
      refine Rn_sq srt254 14 1 (pc' := (if (s.1 89 ((ci 3) + a1).toNatClampNeg) = 0 then 36 else 27)) (ls' := [some (.ref 88), some (.int a1), some (.int a2)]) (st' := []) (h1 := (SH, s)) rfl (Rn_if (fun h8 => ?_) (fun h8 => ?_))
      · replace hJ := m_ifp h8 hJ
        exact Rn_weaken (a := [none, none, none]) (b := [some (.ref 88), some (.int a1), some (.int a2)]) trivial rfl (k_X12_hang_36 d hJ hC)
      · replace hJ := m_ifn h8 hJ
        refine Rn_sq srt254 15 2 (pc' := 29) (ls' := [some (.ref 88), some (.int a1), some (.int a2)]) (st' := [(.int a2), (.ref 88)]) (h1 := (SH, s)) rfl ?_
        obtain ⟨v10, h9, hJ⟩ := m_b1 hJ
        refine Rn_call srt254 17 rfl rfl rfl ⟨Nat.le_of_ble_eq_true rfl, Nat.le_of_ble_eq_true rfl, rfl, Nat.le_of_ble_eq_true rfl⟩ (k_X12_keyOn (d + 1) h9) (show Rn N xs (d + 2) me254 32 [some (.ref 88), some (.int a1), some (.int a2)] [(.int v10)] (SH, s) r from ?_)
        refine Rn_sq srt254 18 2 (pc' := (if v10 = (ci (-1)) then 38 else 36)) (ls' := [some (.ref 88), some (.int a1), some (.int a2)]) (st' := []) (h1 := (SH, s)) rfl (Rn_if (fun h11 => ?_) (fun h11 => ?_))
        · replace hJ := m_ifp h11 hJ
          refine Rn_sq srt254 22 1 (pc' := 39) (ls' := [some (.ref 88), some (.int a1), some (.int a2)]) (st' := [(.ref 88)]) (h1 := (SH, s)) rfl ?_
          obtain ⟨s13, h12, hJ⟩ := m_b1 hJ
          refine Rn_call srt254 23 rfl rfl rfl ⟨Nat.le_of_ble_eq_true rfl, Nat.le_of_ble_eq_true rfl, rfl, Nat.le_of_ble_eq_true rfl⟩ (k_X12_keeps (d + 1) h12) (show Rn N xs (d + 2) me254 42 [some (.ref 88), some (.int a1), some (.int a2)] [] (SH, s13) r from ?_)
          refine Rn_sq srt254 24 6 (pc' := 51) (ls' := [some (.ref 88), some (.int a1), some (.int a2)]) (st' := [(.int a2), (.int ((c8 15) + a1)), (.ref 89)]) (h1 := (SH, s13)) rfl ?_
          obtain ⟨h14, hJ⟩ := m_gn hJ
          extract_lets +onlyGivenNames s15 at hJ
          refine Rn_ev srt254 30 rfl rfl rfl (op_ias sh89 h14 (k := ((c8 15) + a1).toNatClampNeg) rfl) ?_
          refine Rn_sq srt254 31 5 (pc' := 57) (ls' := [some (.ref 88), some (.int a1), some (.int a2)]) (st' := [(.int (ci (-1))), (.int a2), (.int a1), (.int (ci 2)), (.ref 88)]) (h1 := (SH, s15)) rfl ?_
          obtain ⟨s17, h16, hJ⟩ := m_b1 hJ
          refine Rn_call srt254 36 rfl rfl rfl ⟨Nat.le_of_ble_eq_true rfl, Nat.le_of_ble_eq_true rfl, rfl, Nat.le_of_ble_eq_true rfl⟩ (k_X12_notes (d + 1) h16) (show Rn N xs (d + 2) me254 60 [some (.ref 88), some (.int a1), some (.int a2)] [] (SH, s17) r from ?_)
          refine Rn_sq srt254 37 1 (pc' := 61) (ls' := [some (.ref 88), some (.int a1), some (.int a2)]) (st' := [(.int (ci 1))]) (h1 := (SH, s17)) rfl ?_
          rw [← Option.some.inj hJ] at hC
          have hC : r = (some (.int (ci 1)), (SH, s17)) := hC
          subst hC
          exact Rn_ret srt254 38 rfl rfl (m_ret_b rfl (by decide))
        · replace hJ := m_ifn h11 hJ
          exact Rn_weaken (a := [none, none, none]) (b := [some (.ref 88), some (.int a1), some (.int a2)]) trivial rfl (k_X12_hang_36 d hJ hC)
theorem k_X12_hang {N : Nat} {xs : Nat → Int32} (d : Nat) {s : mG} {a1 : Int32} {a2 : Int32} {τ : (Int32 × mG)} (hJ : F_X12_hang a1 a2 s = some τ) : Rn N xs (d + 2) me254 0 [some (.ref 88), some (.int a1), some (.int a2)] [] (SH, s) (some (.int τ.1), (SH, τ.2)) := k_X12_hang_r d hJ rfl
/-! IsHeInModel.looks(III)Z -/
theorem srt255 : m_srt mc255 = true := by decide +kernel
def F_X12_looks_43 (s : mG) : Option (Int32 × mG) :=
  some ((ci 0), s)
set_option maxRecDepth 4000 in
theorem k_X12_looks_43 {N : Nat} {xs : Nat → Int32} (d : Nat) {r : Option Value × mH} {s : mG} {τ : (Int32 × mG)} (hJ : F_X12_looks_43 s = some τ) (hC : (fun τ => r = (some (.int τ.1), (SH, τ.2))) τ) : Rn N xs (d + 2) me255 43 [none, none, none, none] [] (SH, s) r := by
  unfold F_X12_looks_43 at hJ
  refine Rn_sq srt255 25 1 (pc' := 44) (ls' := [none, none, none, none]) (st' := [(.int (ci 0))]) (h1 := (SH, s)) rfl ?_
  rw [← Option.some.inj hJ] at hC
  have hC : r = (some (.int (ci 0)), (SH, s)) := hC
  subst hC
  exact Rn_ret srt255 26 rfl rfl (m_ret_b rfl (by decide))
def F_X12_looks (a1 : Int32) (a2 : Int32) (a3 : Int32) (s : mG) : Option (Int32 × mG) :=
  b1 (F_X12_isGuest s a1) fun v2 =>
  if v2 = 0 then
    F_X12_looks_43 s
  else
    b1 (F_X12_isSign s a2) fun v5 =>
    if v5 = 0 then
      F_X12_looks_43 s
    else
      b1 (F_X12_isIn s a3 (ci (-1)) (ci 1)) fun v8 =>
      if v8 = 0 then
        F_X12_looks_43 s
      else
        if (((c8 39) + ((c8 6) * a1)) + a2) < 0 ∨ 1894 ≤ (((c8 39) + ((c8 6) * a1)) + a2).toNatClampNeg then none else
        if (s.1 89 (((c8 39) + ((c8 6) * a1)) + a2).toNatClampNeg) = a3 then
          F_X12_looks_43 s
        else
          b1 (F_X12_keeps s) fun s13 =>
          if (((c8 39) + ((c8 6) * a1)) + a2) < 0 ∨ 1894 ≤ (((c8 39) + ((c8 6) * a1)) + a2).toNatClampNeg then none else
          let s15 : mG := (mu s13.1 89 (((c8 39) + ((c8 6) * a1)) + a2).toNatClampNeg a3, s13.2)
          some ((ci 1), s15)
set_option maxRecDepth 4000 in
theorem k_X12_looks_r {N : Nat} {xs : Nat → Int32} (d : Nat) {r : Option Value × mH} {s : mG} {a1 : Int32} {a2 : Int32} {a3 : Int32} {τ : (Int32 × mG)} (hJ : F_X12_looks a1 a2 a3 s = some τ) (hC : (fun τ => r = (some (.int τ.1), (SH, τ.2))) τ) : Rn N xs (d + 2) me255 0 [some (.ref 88), some (.int a1), some (.int a2), some (.int a3)] [] (SH, s) r := by
  unfold F_X12_looks at hJ
  refine Rn_sq srt255 0 2 (pc' := 2) (ls' := [some (.ref 88), some (.int a1), some (.int a2), some (.int a3)]) (st' := [(.int a1), (.ref 88)]) (h1 := (SH, s)) rfl ?_
  obtain ⟨v2, h1, hJ⟩ := m_b1 hJ
  refine Rn_call srt255 2 rfl rfl rfl ⟨Nat.le_of_ble_eq_true rfl, Nat.le_of_ble_eq_true rfl, rfl, Nat.le_of_ble_eq_true rfl⟩ (k_X12_isGuest (d) h1) (show Rn N xs (d + 2) me255 5 [some (.ref 88), some (.int a1), some (.int a2), some (.int a3)] [(.int v2)] (SH, s) r from ?_)
  refine Rn_sq srt255 3 1 (pc' := (if v2 = 0 then 43 else 8)) (ls' := [some (.ref 88), some (.int a1), some (.int a2), some (.int a3)]) (st' := []) (h1 := (SH, s)) rfl (Rn_if (fun h3 => ?_) (fun h3 => ?_))
  · replace hJ := m_ifp h3 hJ
    exact Rn_weaken (a := [none, none, none, none]) (b := [some (.ref 88), some (.int a1), some (.int a2), some (.int a3)]) trivial rfl (k_X12_looks_43 d hJ hC)
  · replace hJ := m_ifn h3 hJ
    refine Rn_sq srt255 4 2 (pc' := 10) (ls' := [some (.ref 88), some (.int a1), some (.int a2), some (.int a3)]) (st' := [(.int a2), (.ref 88)]) (h1 := (SH, s)) rfl ?_
    obtain ⟨v5, h4, hJ⟩ := m_b1 hJ
    refine Rn_call srt255 6 rfl rfl rfl ⟨Nat.le_of_ble_eq_true rfl, Nat.le_of_ble_eq_true rfl, rfl, Nat.le_of_ble_eq_true rfl⟩ (k_X12_isSign (d) h4) (show Rn N xs (d + 2) me255 13 [some (.ref 88), some (.int a1), some (.int a2), some (.int a3)] [(.int v5)] (SH, s) r from ?_)
    refine Rn_sq srt255 7 1 (pc' := (if v5 = 0 then 43 else 16)) (ls' := [some (.ref 88), some (.int a1), some (.int a2), some (.int a3)]) (st' := []) (h1 := (SH, s)) rfl (Rn_if (fun h6 => ?_) (fun h6 => ?_))
    · replace hJ := m_ifp h6 hJ
      exact Rn_weaken (a := [none, none, none, none]) (b := [some (.ref 88), some (.int a1), some (.int a2), some (.int a3)]) trivial rfl (k_X12_looks_43 d hJ hC)
    · replace hJ := m_ifn h6 hJ
      refine Rn_sq srt255 8 3 (pc' := 19) (ls' := [some (.ref 88), some (.int a1), some (.int a2), some (.int a3)]) (st' := [(.int (ci 1)), (.int (ci (-1))), (.int a3)]) (h1 := (SH, s)) rfl ?_
      obtain ⟨v8, h7, hJ⟩ := m_b1 hJ
      refine Rn_call srt255 11 rfl rfl rfl ⟨Nat.le_of_ble_eq_true rfl, Nat.le_of_ble_eq_true rfl, rfl, Nat.le_of_ble_eq_true rfl⟩ (k_X12_isIn (d + 1) h7) (show Rn N xs (d + 2) me255 22 [some (.ref 88), some (.int a1), some (.int a2), some (.int a3)] [(.int v8)] (SH, s) r from ?_)
      refine Rn_sq srt255 12 1 (pc' := (if v8 = 0 then 43 else 25)) (ls' := [some (.ref 88), some (.int a1), some (.int a2), some (.int a3)]) (st' := []) (h1 := (SH, s)) rfl (Rn_if (fun h9 => ?_) (fun h9 => ?_))
      · replace hJ := m_ifp h9 hJ
        exact Rn_weaken (a := [none, none, none, none]) (b := [some (.ref 88), some (.int a1), some (.int a2), some (.int a3)]) trivial rfl (k_X12_looks_43 d hJ hC)
      · replace hJ := m_ifn h9 hJ
        refine Rn_sq srt255 13 9 (pc' := 38) (ls' := [some (.ref 88), some (.int a1), some (.int a2), some (.int a3)]) (st' := [(.int (((c8 39) + ((c8 6) * a1)) + a2)), (.ref 89)]) (h1 := (SH, s)) rfl ?_
        obtain ⟨h10, hJ⟩ := m_gn hJ
        refine Rn_ev srt255 22 rfl rfl rfl (op_ia sh89 h10 (k := (((c8 39) + ((c8 6) * a1)) + a2).toNatClampNeg) rfl) ?_
        refine Rn_sq srt255 23 2 (pc' := (if (s.1 89 (((c8 39) + ((c8 6) * a1)) + a2).toNatClampNeg) = a3 then 43 else 45)) (ls' := [some (.ref 88), some (.int a1), some (.int a2), some (.int a3)]) (st' := []) (h1 := (SH, s)) rfl (Rn_if (fun h11 => ?_) (fun h11 => ?_))
        · replace hJ := m_ifp h11 hJ
          exact Rn_weaken (a := [none, none, none, none]) (b := [some (.ref 88), some (.int a1), some (.int a2), some (.int a3)]) trivial rfl (k_X12_looks_43 d hJ hC)
        · replace hJ := m_ifn h11 hJ
          refine Rn_sq srt255 27 1 (pc' := 46) (ls' := [some (.ref 88), some (.int a1), some (.int a2), some (.int a3)]) (st' := [(.ref 88)]) (h1 := (SH, s)) rfl ?_
          obtain ⟨s13, h12, hJ⟩ := m_b1 hJ
          refine Rn_call srt255 28 rfl rfl rfl ⟨Nat.le_of_ble_eq_true rfl, Nat.le_of_ble_eq_true rfl, rfl, Nat.le_of_ble_eq_true rfl⟩ (k_X12_keeps (d + 1) h12) (show Rn N xs (d + 2) me255 49 [some (.ref 88), some (.int a1), some (.int a2), some (.int a3)] [] (SH, s13) r from ?_)
          refine Rn_sq srt255 29 10 (pc' := 63) (ls' := [some (.ref 88), some (.int a1), some (.int a2), some (.int a3)]) (st' := [(.int a3), (.int (((c8 39) + ((c8 6) * a1)) + a2)), (.ref 89)]) (h1 := (SH, s13)) rfl ?_
          obtain ⟨h14, hJ⟩ := m_gn hJ
          extract_lets +onlyGivenNames s15 at hJ
          refine Rn_ev srt255 39 rfl rfl rfl (op_ias sh89 h14 (k := (((c8 39) + ((c8 6) * a1)) + a2).toNatClampNeg) rfl) ?_
          refine Rn_sq srt255 40 1 (pc' := 65) (ls' := [some (.ref 88), some (.int a1), some (.int a2), some (.int a3)]) (st' := [(.int (ci 1))]) (h1 := (SH, s15)) rfl ?_
          rw [← Option.some.inj hJ] at hC
          have hC : r = (some (.int (ci 1)), (SH, s15)) := hC
          subst hC
          exact Rn_ret srt255 41 rfl rfl (m_ret_b rfl (by decide))
theorem k_X12_looks {N : Nat} {xs : Nat → Int32} (d : Nat) {s : mG} {a1 : Int32} {a2 : Int32} {a3 : Int32} {τ : (Int32 × mG)} (hJ : F_X12_looks a1 a2 a3 s = some τ) : Rn N xs (d + 2) me255 0 [some (.ref 88), some (.int a1), some (.int a2), some (.int a3)] [] (SH, s) (some (.int τ.1), (SH, τ.2)) := k_X12_looks_r d hJ rfl
/-! IsHeInModel.byA(JJJ)J -/
theorem srt256 : m_srt mc256 = true := by decide +kernel
def F_X12_byA (s : mG) (a1 : Int64) (a2 : Int64) (a3 : Int64) : Option (Int64) :=
  if ((a1 * a2) + (((cl 1000000) - a1) * a3)) = 0 then none else
  some (((cl 1000000) * (a1 * a2)) / ((a1 * a2) + (((cl 1000000) - a1) * a3)))
set_option maxRecDepth 4000 in
theorem k_X12_byA_r {N : Nat} {xs : Nat → Int32} (d : Nat) {r : Option Value × mH} {s : mG} {a1 : Int64} {a2 : Int64} {a3 : Int64} {τ : (Int64)} (hJ : F_X12_byA s a1 a2 a3 = some τ) (hC : (fun τ => r = (some (.long τ), (SH, s))) τ) : Rn N xs (d + 0) me256 0 [some (.ref 88), some (.long a1), none, some (.long a2), none, some (.long a3), none] [] (SH, s) r := by
  unfold F_X12_byA at hJ
  refine Rn_sq srt256 0 14 (pc' := 19) (ls' := [some (.ref 88), some (.long a1), none, some (.long a2), none, some (.long a3), none]) (st' := [(.long ((a1 * a2) + (((cl 1000000) - a1) * a3))), (.long ((cl 1000000) * (a1 * a2)))]) (h1 := (SH, s)) rfl ?_
  obtain ⟨h1, hJ⟩ := m_gn hJ
  refine Rn_ev srt256 14 rfl rfl rfl (op_ldiv h1) ?_
  rw [← Option.some.inj hJ] at hC
  have hC : r = (some (.long (((cl 1000000) * (a1 * a2)) / ((a1 * a2) + (((cl 1000000) - a1) * a3)))), (SH, s)) := hC
  subst hC
  exact Rn_ret srt256 15 rfl rfl rfl
theorem k_X12_byA {N : Nat} {xs : Nat → Int32} (d : Nat) {s : mG} {a1 : Int64} {a2 : Int64} {a3 : Int64} {τ : (Int64)} (hJ : F_X12_byA s a1 a2 a3 = some τ) : Rn N xs (d + 0) me256 0 [some (.ref 88), some (.long a1), none, some (.long a2), none, some (.long a3), none] [] (SH, s) (some (.long τ), (SH, s)) := k_X12_byA_r d hJ rfl
/-! IsHeInModel.bySign(JII)J -/
theorem srt257 : m_srt mc257 = true := by decide +kernel
def F_X12_bySign (s : mG) (a1 : Int64) (a2 : Int32) (a3 : Int32) : Option (Int64) :=
  if ((c16 143) + ((ci 2) * a2)) < 0 ∨ 1894 ≤ ((c16 143) + ((ci 2) * a2)).toNatClampNeg then none else
  let v2 : Int32 := (s.1 89 ((c16 143) + ((ci 2) * a2)).toNatClampNeg)
  if (((c16 143) + ((ci 2) * a2)) + (ci 1)) < 0 ∨ 1894 ≤ (((c16 143) + ((ci 2) * a2)) + (ci 1)).toNatClampNeg then none else
  let v4 : Int32 := (s.1 89 (((c16 143) + ((ci 2) * a2)) + (ci 1)).toNatClampNeg)
  if a3 = (ci 1) then
    b1 (F_X12_byA s a1 v2.toInt64 v4.toInt64) fun v7 =>
    some v7
  else
    b1 (F_X12_byA s a1 ((c16 1000) - v2).toInt64 ((c16 1000) - v4).toInt64) fun v9 =>
    some v9
set_option maxRecDepth 4000 in
theorem k_X12_bySign_r {N : Nat} {xs : Nat → Int32} (d : Nat) {r : Option Value × mH} {s : mG} {a1 : Int64} {a2 : Int32} {a3 : Int32} {τ : (Int64)} (hJ : F_X12_bySign s a1 a2 a3 = some τ) (hC : (fun τ => r = (some (.long τ), (SH, s))) τ) : Rn N xs (d + 1) me257 0 [some (.ref 88), some (.long a1), none, some (.int a2), some (.int a3), none, none] [] (SH, s) r := by
  unfold F_X12_bySign at hJ
  refine Rn_sq srt257 0 7 (pc' := 11) (ls' := [some (.ref 88), some (.long a1), none, some (.int a2), some (.int a3), none, none]) (st' := [(.int ((c16 143) + ((ci 2) * a2))), (.ref 89)]) (h1 := (SH, s)) rfl ?_
  obtain ⟨h1, hJ⟩ := m_gn hJ
  refine Rn_ev srt257 7 rfl rfl rfl (op_ia sh89 h1 (k := ((c16 143) + ((ci 2) * a2)).toNatClampNeg) rfl) ?_
  extract_lets +onlyGivenNames v2 at hJ
  refine Rn_sq srt257 8 10 (pc' := 27) (ls' := [some (.ref 88), some (.long a1), none, some (.int a2), some (.int a3), some (.int v2), none]) (st' := [(.int (((c16 143) + ((ci 2) * a2)) + (ci 1))), (.ref 89)]) (h1 := (SH, s)) rfl ?_
  obtain ⟨h3, hJ⟩ := m_gn hJ
  refine Rn_ev srt257 18 rfl rfl rfl (op_ia sh89 h3 (k := (((c16 143) + ((ci 2) * a2)) + (ci 1)).toNatClampNeg) rfl) ?_
  extract_lets +onlyGivenNames v4 at hJ
  refine Rn_sq srt257 19 4 (pc' := (if a3 = (ci 1) then 36 else 50)) (ls' := [some (.ref 88), some (.long a1), none, some (.int a2), some (.int a3), some (.int v2), some (.int v4)]) (st' := []) (h1 := (SH, s)) rfl (Rn_if (fun h5 => ?_) (fun h5 => ?_))
  · replace hJ := m_ifp h5 hJ
    refine Rn_sq srt257 23 6 (pc' := 44) (ls' := [some (.ref 88), some (.long a1), none, some (.int a2), some (.int a3), some (.int v2), some (.int v4)]) (st' := [(.long v4.toInt64), (.long v2.toInt64), (.long a1), (.ref 88)]) (h1 := (SH, s)) rfl ?_
    obtain ⟨v7, h6, hJ⟩ := m_b1 hJ
    refine Rn_call srt257 29 rfl rfl rfl ⟨Nat.le_of_ble_eq_true rfl, Nat.le_of_ble_eq_true rfl, rfl, Nat.le_of_ble_eq_true rfl⟩ (k_X12_byA (d) h6) (show Rn N xs (d + 1) me257 47 [some (.ref 88), some (.long a1), none, some (.int a2), some (.int a3), some (.int v2), some (.int v4)] [(.long v7)] (SH, s) r from ?_)
    refine Rn_sq srt257 30 1 (pc' := 69) (ls' := [some (.ref 88), some (.long a1), none, some (.int a2), some (.int a3), some (.int v2), some (.int v4)]) (st' := [(.long v7)]) (h1 := (SH, s)) rfl ?_
    rw [← Option.some.inj hJ] at hC
    have hC : r = (some (.long v7), (SH, s)) := hC
    subst hC
    exact Rn_ret srt257 42 rfl rfl rfl
  · replace hJ := m_ifn h5 hJ
    refine Rn_sq srt257 31 10 (pc' := 66) (ls' := [some (.ref 88), some (.long a1), none, some (.int a2), some (.int a3), some (.int v2), some (.int v4)]) (st' := [(.long ((c16 1000) - v4).toInt64), (.long ((c16 1000) - v2).toInt64), (.long a1), (.ref 88)]) (h1 := (SH, s)) rfl ?_
    obtain ⟨v9, h8, hJ⟩ := m_b1 hJ
    refine Rn_call srt257 41 rfl rfl rfl ⟨Nat.le_of_ble_eq_true rfl, Nat.le_of_ble_eq_true rfl, rfl, Nat.le_of_ble_eq_true rfl⟩ (k_X12_byA (d) h8) (show Rn N xs (d + 1) me257 69 [some (.ref 88), some (.long a1), none, some (.int a2), some (.int a3), some (.int v2), some (.int v4)] [(.long v9)] (SH, s) r from ?_)
    rw [← Option.some.inj hJ] at hC
    have hC : r = (some (.long v9), (SH, s)) := hC
    subst hC
    exact Rn_ret srt257 42 rfl rfl rfl
theorem k_X12_bySign {N : Nat} {xs : Nat → Int32} (d : Nat) {s : mG} {a1 : Int64} {a2 : Int32} {a3 : Int32} {τ : (Int64)} (hJ : F_X12_bySign s a1 a2 a3 = some τ) : Rn N xs (d + 1) me257 0 [some (.ref 88), some (.long a1), none, some (.int a2), some (.int a3), none, none] [] (SH, s) (some (.long τ), (SH, s)) := k_X12_bySign_r d hJ rfl
/-! IsHeInModel.sureOf(I)J -/
theorem srt258 : m_srt mc258 = true := by decide +kernel
def C_X12_sureOf_16 (N : Nat) (xs : Nat → Int32) (d : Nat) (r : Option Value × mH) (C : (Int64 × mG) → Prop) : ((Int32 × Int64 × Int32 × mG) ⊕ (Int64 × mG)) → Prop
  | .inl v => Rn N xs (d + 5) me258 16 [some (.ref 88), some (.int v.1), some (.long v.2.1), none, some (.int v.2.2.1)] [] (SH, v.2.2.2) r
  | .inr a => C a
def F_X12_sureOf_70 (x1 : Int32) (x2 : Int64) (x4 : Int32) (s : mG) : Option ((Int32 × Int64 × Int32 × mG) ⊕ (Int64 × mG)) :=
  some (Sum.inl (x1, x2, (x4 + ci 1), s))
set_option maxRecDepth 4000 in
theorem k_X12_sureOf_70 {N : Nat} {xs : Nat → Int32} (d : Nat) {r : Option Value × mH} {s : mG} {x1 : Int32} {x2 : Int64} {x4 : Int32} {τ : ((Int32 × Int64 × Int32 × mG) ⊕ (Int64 × mG))} (hJ : F_X12_sureOf_70 x1 x2 x4 s = some τ) (hC : (C_X12_sureOf_16 N xs d r (fun τ => r = (some (.long τ.1), (SH, τ.2)))) τ) : Rn N xs (d + 5) me258 70 [some (.ref 88), some (.int x1), some (.long x2), none, some (.int x4)] [] (SH, s) r := by
  unfold F_X12_sureOf_70 at hJ
  refine Rn_sq srt258 43 2 (pc' := 16) (ls' := [some (.ref 88), some (.int x1), some (.long x2), none, some (.int (x4 + ci 1))]) (st' := []) (h1 := (SH, s)) rfl ?_
  rw [← Option.some.inj hJ] at hC
  exact hC
def F_X12_sureOf_B16 (x1 : Int32) (x2 : Int64) (x4 : Int32) (s : mG) : Option ((Int32 × Int64 × Int32 × mG) ⊕ (Int64 × mG)) :=
  if (s.1 89 115) ≤ x4 then
    some (Sum.inr (x2, s))
  else
    if (((c8 39) + ((c8 6) * x1)) + x4) < 0 ∨ 1894 ≤ (((c8 39) + ((c8 6) * x1)) + x4).toNatClampNeg then none else
    if (s.1 89 (((c8 39) + ((c8 6) * x1)) + x4).toNatClampNeg) = (ci (-1)) then
      F_X12_sureOf_70 x1 x2 x4 s
    else
      if (((c8 39) + ((c8 6) * x1)) + x4) < 0 ∨ 1894 ≤ (((c8 39) + ((c8 6) * x1)) + x4).toNatClampNeg then none else
      b1 (F_X12_bySign s x2 x4 (s.1 89 (((c8 39) + ((c8 6) * x1)) + x4).toNatClampNeg)) fun v10 =>
      F_X12_sureOf_70 x1 v10 x4 s
set_option maxRecDepth 4000 in
theorem k_X12_sureOf_B16 {N : Nat} {xs : Nat → Int32} (d : Nat) {r : Option Value × mH} {s : mG} {x1 : Int32} {x2 : Int64} {x4 : Int32} {τ : ((Int32 × Int64 × Int32 × mG) ⊕ (Int64 × mG))} (hJ : F_X12_sureOf_B16 x1 x2 x4 s = some τ) (hC : (C_X12_sureOf_16 N xs d r (fun τ => r = (some (.long τ.1), (SH, τ.2)))) τ) : Rn N xs (d + 5) me258 16 [some (.ref 88), some (.int x1), some (.long x2), none, some (.int x4)] [] (SH, s) r := by
  unfold F_X12_sureOf_B16 at hJ
  refine Rn_sq srt258 10 4 (pc' := 24) (ls' := [some (.ref 88), some (.int x1), some (.long x2), none, some (.int x4)]) (st' := [(.int (c8 115)), (.ref 89), (.int x4)]) (h1 := (SH, s)) rfl ?_
  refine Rn_ev srt258 14 rfl rfl rfl (op_ia sh89 (by decide) (k := 115) rfl) ?_
  refine Rn_sq srt258 15 1 (pc' := (if (s.1 89 115) ≤ x4 then 76 else 28)) (ls' := [some (.ref 88), some (.int x1), some (.long x2), none, some (.int x4)]) (st' := []) (h1 := (SH, s)) rfl (Rn_if (fun h5 => ?_) (fun h5 => ?_))
  · replace hJ := m_ifp h5 hJ
    refine Rn_sq srt258 45 1 (pc' := 77) (ls' := [some (.ref 88), some (.int x1), some (.long x2), none, some (.int x4)]) (st' := [(.long x2)]) (h1 := (SH, s)) rfl ?_
    rw [← Option.some.inj hJ] at hC
    have hC : r = (some (.long x2), (SH, s)) := hC
    subst hC
    exact Rn_ret srt258 46 rfl rfl rfl
  · replace hJ := m_ifn h5 hJ
    refine Rn_sq srt258 16 9 (pc' := 42) (ls' := [some (.ref 88), some (.int x1), some (.long x2), none, some (.int x4)]) (st' := [(.int (((c8 39) + ((c8 6) * x1)) + x4)), (.ref 89)]) (h1 := (SH, s)) rfl ?_
    obtain ⟨h6, hJ⟩ := m_gn hJ
    refine Rn_ev srt258 25 rfl rfl rfl (op_ia sh89 h6 (k := (((c8 39) + ((c8 6) * x1)) + x4).toNatClampNeg) rfl) ?_
    refine Rn_sq srt258 26 2 (pc' := (if (s.1 89 (((c8 39) + ((c8 6) * x1)) + x4).toNatClampNeg) = (ci (-1)) then 70 else 47)) (ls' := [some (.ref 88), some (.int x1), some (.long x2), none, some (.int x4)]) (st' := []) (h1 := (SH, s)) rfl (Rn_if (fun h7 => ?_) (fun h7 => ?_))
    · replace hJ := m_ifp h7 hJ
      exact (k_X12_sureOf_70 d hJ hC)
    · replace hJ := m_ifn h7 hJ
      refine Rn_sq srt258 28 12 (pc' := 65) (ls' := [some (.ref 88), some (.int x1), some (.long x2), none, some (.int x4)]) (st' := [(.int (((c8 39) + ((c8 6) * x1)) + x4)), (.ref 89), (.int x4), (.long x2), (.ref 88)]) (h1 := (SH, s)) rfl ?_
      obtain ⟨h8, hJ⟩ := m_gn hJ
      refine Rn_ev srt258 40 rfl rfl rfl (op_ia sh89 h8 (k := (((c8 39) + ((c8 6) * x1)) + x4).toNatClampNeg) rfl) ?_
      obtain ⟨v10, h9, hJ⟩ := m_b1 hJ
      refine Rn_call srt258 41 rfl rfl rfl ⟨Nat.le_of_ble_eq_true rfl, Nat.le_of_ble_eq_true rfl, rfl, Nat.le_of_ble_eq_true rfl⟩ (k_X12_bySign (d + 3) h9) (show Rn N xs (d + 5) me258 69 [some (.ref 88), some (.int x1), some (.long x2), none, some (.int x4)] [(.long v10)] (SH, s) r from ?_)
      refine Rn_sq srt258 42 1 (pc' := 70) (ls' := [some (.ref 88), some (.int x1), some (.long v10), none, some (.int x4)]) (st' := []) (h1 := (SH, s)) rfl ?_
      exact (k_X12_sureOf_70 d hJ hC)
def F_X12_sureOf_L16 (x1 : Int32) (x2 : Int64) (x4 : Int32) (s : mG) : Option (Int64 × mG) := whl (fun (v : (Int32 × Int64 × Int32 × mG)) => F_X12_sureOf_B16 v.1 v.2.1 v.2.2.1 v.2.2.2) (x1, x2, x4, s)
theorem k_X12_sureOf_L16 {N : Nat} {xs : Nat → Int32} (d : Nat) {r : Option Value × mH} {s : mG} {x1 : Int32} {x2 : Int64} {x4 : Int32} {τ : (Int64 × mG)} (hJ : F_X12_sureOf_L16 x1 x2 x4 s = some τ) (hC : (fun τ => r = (some (.long τ.1), (SH, τ.2))) τ) : Rn N xs (d + 5) me258 16 [some (.ref 88), some (.int x1), some (.long x2), none, some (.int x4)] [] (SH, s) r :=
  whl_link (P := fun (v : (Int32 × Int64 × Int32 × mG)) => Rn N xs (d + 5) me258 16 [some (.ref 88), some (.int v.1), some (.long v.2.1), none, some (.int v.2.2.1)] [] (SH, v.2.2.2) r) (C := (C_X12_sureOf_16 N xs d r (fun τ => r = (some (.long τ.1), (SH, τ.2))))) (fun v τ h1 h2 => k_X12_sureOf_B16 d h1 h2) (fun _ h => h) (fun _ h => h) _ _ hJ hC
def F_X12_sureOf (a1 : Int32) (s : mG) : Option (Int64 × mG) :=
  b2 (F_X12_saysNow (c8 25) a1 s) fun v3 s2 =>
  let v4 : Int64 := ((c16 1000) * v3).toInt64
  F_X12_sureOf_L16 a1 v4 (ci 0) s2
set_option maxRecDepth 4000 in
theorem k_X12_sureOf_r {N : Nat} {xs : Nat → Int32} (d : Nat) {r : Option Value × mH} {s : mG} {a1 : Int32} {τ : (Int64 × mG)} (hJ : F_X12_sureOf a1 s = some τ) (hC : (fun τ => r = (some (.long τ.1), (SH, τ.2))) τ) : Rn N xs (d + 5) me258 0 [some (.ref 88), some (.int a1), none, none, none] [] (SH, s) r := by
  unfold F_X12_sureOf at hJ
  refine Rn_sq srt258 0 4 (pc' := 7) (ls' := [some (.ref 88), some (.int a1), none, none, none]) (st' := [(.int a1), (.int (c8 25)), (.ref 88), (.int (c16 1000))]) (h1 := (SH, s)) rfl ?_
  obtain ⟨v3, s2, h1, hJ⟩ := m_b2 hJ
  refine Rn_call srt258 4 rfl rfl rfl ⟨Nat.le_of_ble_eq_true rfl, Nat.le_of_ble_eq_true rfl, rfl, Nat.le_of_ble_eq_true rfl⟩ (k_X12_saysNow (d) h1) (show Rn N xs (d + 5) me258 10 [some (.ref 88), some (.int a1), none, none, none] [(.int v3), (.int (c16 1000))] (SH, s2) r from ?_)
  extract_lets +onlyGivenNames v4 at hJ
  refine Rn_sq srt258 5 5 (pc' := 16) (ls' := [some (.ref 88), some (.int a1), some (.long v4), none, some (.int (ci 0))]) (st' := []) (h1 := (SH, s2)) rfl ?_
  exact (k_X12_sureOf_L16 d hJ hC)
theorem k_X12_sureOf {N : Nat} {xs : Nat → Int32} (d : Nat) {s : mG} {a1 : Int32} {τ : (Int64 × mG)} (hJ : F_X12_sureOf a1 s = some τ) : Rn N xs (d + 5) me258 0 [some (.ref 88), some (.int a1), none, none, none] [] (SH, s) (some (.long τ.1), (SH, τ.2)) := k_X12_sureOf_r d hJ rfl
/-! IsHeInModel.surer(J)J -/
theorem srt259 : m_srt mc259 = true := by decide +kernel
def F_X12_surer (s : mG) (a1 : Int64) : Option (Int64) :=
  if (lg_cmp a1 ((cl 1000000) - a1)) ≤ 0 then
    some ((cl 1000000) - a1)
  else
    some a1
set_option maxRecDepth 4000 in
theorem k_X12_surer_r {N : Nat} {xs : Nat → Int32} (d : Nat) {r : Option Value × mH} {s : mG} {a1 : Int64} {τ : (Int64)} (hJ : F_X12_surer s a1 = some τ) (hC : (fun τ => r = (some (.long τ), (SH, s))) τ) : Rn N xs (d + 0) me259 0 [some (.long a1), none] [] (SH, s) r := by
  unfold F_X12_surer at hJ
  refine Rn_sq srt259 0 6 (pc' := (if (lg_cmp a1 ((cl 1000000) - a1)) ≤ 0 then 14 else 10)) (ls' := [some (.long a1), none]) (st' := []) (h1 := (SH, s)) rfl (Rn_if (fun h1 => ?_) (fun h1 => ?_))
  · replace hJ := m_ifp h1 hJ
    refine Rn_sq srt259 8 3 (pc' := 19) (ls' := [some (.long a1), none]) (st' := [(.long ((cl 1000000) - a1))]) (h1 := (SH, s)) rfl ?_
    rw [← Option.some.inj hJ] at hC
    have hC : r = (some (.long ((cl 1000000) - a1)), (SH, s)) := hC
    subst hC
    exact Rn_ret srt259 11 rfl rfl rfl
  · replace hJ := m_ifn h1 hJ
    refine Rn_sq srt259 6 2 (pc' := 19) (ls' := [some (.long a1), none]) (st' := [(.long a1)]) (h1 := (SH, s)) rfl ?_
    rw [← Option.some.inj hJ] at hC
    have hC : r = (some (.long a1), (SH, s)) := hC
    subst hC
    exact Rn_ret srt259 11 rfl rfl rfl
theorem k_X12_surer {N : Nat} {xs : Nat → Int32} (d : Nat) {s : mG} {a1 : Int64} {τ : (Int64)} (hJ : F_X12_surer s a1 = some τ) : Rn N xs (d + 0) me259 0 [some (.long a1), none] [] (SH, s) (some (.long τ), (SH, s)) := k_X12_surer_r d hJ rfl
/-! IsHeInModel.seeing(JI)J -/
theorem srt260 : m_srt mc260 = true := by decide +kernel
def F_X12_seeing (s : mG) (a1 : Int64) (a2 : Int32) : Option (Int64) :=
  if ((c16 143) + ((ci 2) * a2)) < 0 ∨ 1894 ≤ ((c16 143) + ((ci 2) * a2)).toNatClampNeg then none else
  if (((c16 143) + ((ci 2) * a2)) + (ci 1)) < 0 ∨ 1894 ≤ (((c16 143) + ((ci 2) * a2)) + (ci 1)).toNatClampNeg then none else
  some (((a1 * (s.1 89 ((c16 143) + ((ci 2) * a2)).toNatClampNeg).toInt64) + (((cl 1000000) - a1) * (s.1 89 (((c16 143) + ((ci 2) * a2)) + (ci 1)).toNatClampNeg).toInt64)) / (cl 1000))
set_option maxRecDepth 4000 in
theorem k_X12_seeing_r {N : Nat} {xs : Nat → Int32} (d : Nat) {r : Option Value × mH} {s : mG} {a1 : Int64} {a2 : Int32} {τ : (Int64)} (hJ : F_X12_seeing s a1 a2 = some τ) (hC : (fun τ => r = (some (.long τ), (SH, s))) τ) : Rn N xs (d + 0) me260 0 [some (.ref 88), some (.long a1), none, some (.int a2)] [] (SH, s) r := by
  unfold F_X12_seeing at hJ
  refine Rn_sq srt260 0 8 (pc' := 12) (ls' := [some (.ref 88), some (.long a1), none, some (.int a2)]) (st' := [(.int ((c16 143) + ((ci 2) * a2))), (.ref 89), (.long a1)]) (h1 := (SH, s)) rfl ?_
  obtain ⟨h1, hJ⟩ := m_gn hJ
  refine Rn_ev srt260 8 rfl rfl rfl (op_ia sh89 h1 (k := ((c16 143) + ((ci 2) * a2)).toNatClampNeg) rfl) ?_
  refine Rn_sq srt260 9 14 (pc' := 33) (ls' := [some (.ref 88), some (.long a1), none, some (.int a2)]) (st' := [(.int (((c16 143) + ((ci 2) * a2)) + (ci 1))), (.ref 89), (.long ((cl 1000000) - a1)), (.long (a1 * (s.1 89 ((c16 143) + ((ci 2) * a2)).toNatClampNeg).toInt64))]) (h1 := (SH, s)) rfl ?_
  obtain ⟨h2, hJ⟩ := m_gn hJ
  refine Rn_ev srt260 23 rfl rfl rfl (op_ia sh89 h2 (k := (((c16 143) + ((ci 2) * a2)) + (ci 1)).toNatClampNeg) rfl) ?_
  refine Rn_sq srt260 24 4 (pc' := 40) (ls' := [some (.ref 88), some (.long a1), none, some (.int a2)]) (st' := [(.long (cl 1000)), (.long ((a1 * (s.1 89 ((c16 143) + ((ci 2) * a2)).toNatClampNeg).toInt64) + (((cl 1000000) - a1) * (s.1 89 (((c16 143) + ((ci 2) * a2)) + (ci 1)).toNatClampNeg).toInt64)))]) (h1 := (SH, s)) rfl ?_
  refine Rn_ev srt260 28 rfl rfl rfl (op_ldiv (by decide)) ?_
  rw [← Option.some.inj hJ] at hC
  have hC : r = (some (.long (((a1 * (s.1 89 ((c16 143) + ((ci 2) * a2)).toNatClampNeg).toInt64) + (((cl 1000000) - a1) * (s.1 89 (((c16 143) + ((ci 2) * a2)) + (ci 1)).toNatClampNeg).toInt64)) / (cl 1000))), (SH, s)) := hC
  subst hC
  exact Rn_ret srt260 29 rfl rfl rfl
theorem k_X12_seeing {N : Nat} {xs : Nat → Int32} (d : Nat) {s : mG} {a1 : Int64} {a2 : Int32} {τ : (Int64)} (hJ : F_X12_seeing s a1 a2 = some τ) : Rn N xs (d + 0) me260 0 [some (.ref 88), some (.long a1), none, some (.int a2)] [] (SH, s) (some (.long τ), (SH, s)) := k_X12_seeing_r d hJ rfl
/-! IsHeInModel.worthOf(JI)J -/
theorem srt261 : m_srt mc261 = true := by decide +kernel
def F_X12_worthOf (s : mG) (a1 : Int64) (a2 : Int32) : Option (Int64) :=
  b1 (F_X12_seeing s a1 a2) fun v2 =>
  b1 (F_X12_bySign s a1 a2 (ci 1)) fun v4 =>
  b1 (F_X12_surer s v4) fun v6 =>
  b1 (F_X12_bySign s a1 a2 (ci 0)) fun v8 =>
  b1 (F_X12_surer s v8) fun v10 =>
  some ((v2 * v6) + (((cl 1000000) - v2) * v10))
set_option maxRecDepth 4000 in
theorem k_X12_worthOf_r {N : Nat} {xs : Nat → Int32} (d : Nat) {r : Option Value × mH} {s : mG} {a1 : Int64} {a2 : Int32} {τ : (Int64)} (hJ : F_X12_worthOf s a1 a2 = some τ) (hC : (fun τ => r = (some (.long τ), (SH, s))) τ) : Rn N xs (d + 2) me261 0 [some (.ref 88), some (.long a1), none, some (.int a2), none, none] [] (SH, s) r := by
  unfold F_X12_worthOf at hJ
  refine Rn_sq srt261 0 3 (pc' := 3) (ls' := [some (.ref 88), some (.long a1), none, some (.int a2), none, none]) (st' := [(.int a2), (.long a1), (.ref 88)]) (h1 := (SH, s)) rfl ?_
  obtain ⟨v2, h1, hJ⟩ := m_b1 hJ
  refine Rn_call srt261 3 rfl rfl rfl ⟨Nat.le_of_ble_eq_true rfl, Nat.le_of_ble_eq_true rfl, rfl, Nat.le_of_ble_eq_true rfl⟩ (k_X12_seeing (d + 1) h1) (show Rn N xs (d + 2) me261 6 [some (.ref 88), some (.long a1), none, some (.int a2), none, none] [(.long v2)] (SH, s) r from ?_)
  refine Rn_sq srt261 4 6 (pc' := 14) (ls' := [some (.ref 88), some (.long a1), none, some (.int a2), some (.long v2), none]) (st' := [(.int (ci 1)), (.int a2), (.long a1), (.ref 88), (.long v2)]) (h1 := (SH, s)) rfl ?_
  obtain ⟨v4, h3, hJ⟩ := m_b1 hJ
  refine Rn_call srt261 10 rfl rfl rfl ⟨Nat.le_of_ble_eq_true rfl, Nat.le_of_ble_eq_true rfl, rfl, Nat.le_of_ble_eq_true rfl⟩ (k_X12_bySign (d) h3) (show Rn N xs (d + 2) me261 17 [some (.ref 88), some (.long a1), none, some (.int a2), some (.long v2), none] [(.long v4), (.long v2)] (SH, s) r from ?_)
  obtain ⟨v6, h5, hJ⟩ := m_b1 hJ
  refine Rn_call srt261 11 rfl rfl rfl ⟨Nat.le_of_ble_eq_true rfl, Nat.le_of_ble_eq_true rfl, rfl, Nat.le_of_ble_eq_true rfl⟩ (k_X12_surer (d + 1) h5) (show Rn N xs (d + 2) me261 20 [some (.ref 88), some (.long a1), none, some (.int a2), some (.long v2), none] [(.long v6), (.long v2)] (SH, s) r from ?_)
  refine Rn_sq srt261 12 8 (pc' := 31) (ls' := [some (.ref 88), some (.long a1), none, some (.int a2), some (.long v2), none]) (st' := [(.int (ci 0)), (.int a2), (.long a1), (.ref 88), (.long ((cl 1000000) - v2)), (.long (v2 * v6))]) (h1 := (SH, s)) rfl ?_
  obtain ⟨v8, h7, hJ⟩ := m_b1 hJ
  refine Rn_call srt261 20 rfl rfl rfl ⟨Nat.le_of_ble_eq_true rfl, Nat.le_of_ble_eq_true rfl, rfl, Nat.le_of_ble_eq_true rfl⟩ (k_X12_bySign (d) h7) (show Rn N xs (d + 2) me261 34 [some (.ref 88), some (.long a1), none, some (.int a2), some (.long v2), none] [(.long v8), (.long ((cl 1000000) - v2)), (.long (v2 * v6))] (SH, s) r from ?_)
  obtain ⟨v10, h9, hJ⟩ := m_b1 hJ
  refine Rn_call srt261 21 rfl rfl rfl ⟨Nat.le_of_ble_eq_true rfl, Nat.le_of_ble_eq_true rfl, rfl, Nat.le_of_ble_eq_true rfl⟩ (k_X12_surer (d + 1) h9) (show Rn N xs (d + 2) me261 37 [some (.ref 88), some (.long a1), none, some (.int a2), some (.long v2), none] [(.long v10), (.long ((cl 1000000) - v2)), (.long (v2 * v6))] (SH, s) r from ?_)
  refine Rn_sq srt261 22 2 (pc' := 39) (ls' := [some (.ref 88), some (.long a1), none, some (.int a2), some (.long v2), none]) (st' := [(.long ((v2 * v6) + (((cl 1000000) - v2) * v10)))]) (h1 := (SH, s)) rfl ?_
  rw [← Option.some.inj hJ] at hC
  have hC : r = (some (.long ((v2 * v6) + (((cl 1000000) - v2) * v10))), (SH, s)) := hC
  subst hC
  exact Rn_ret srt261 24 rfl rfl rfl
theorem k_X12_worthOf {N : Nat} {xs : Nat → Int32} (d : Nat) {s : mG} {a1 : Int64} {a2 : Int32} {τ : (Int64)} (hJ : F_X12_worthOf s a1 a2 = some τ) : Rn N xs (d + 2) me261 0 [some (.ref 88), some (.long a1), none, some (.int a2), none, none] [] (SH, s) (some (.long τ), (SH, s)) := k_X12_worthOf_r d hJ rfl
/-! IsHeInModel.lookedAt(I)I -/
theorem srt262 : m_srt mc262 = true := by decide +kernel
def C_X12_lookedAt_4 (N : Nat) (xs : Nat → Int32) (s : mG) (d : Nat) (r : Option Value × mH) (C : (Int32) → Prop) : ((Int32 × Int32 × Int32) ⊕ (Int32)) → Prop
  | .inl v => Rn N xs (d + 0) me262 4 [some (.ref 88), some (.int v.1), some (.int v.2.1), some (.int v.2.2)] [] (SH, s) r
  | .inr a => C a
def F_X12_lookedAt_41 (s : mG) (x1 : Int32) (x3 : Int32) (y0 : Int32) (y1 : Int32) : Option ((Int32 × Int32 × Int32) ⊕ (Int32)) :=
  some (Sum.inl (x1, (y0 ||| y1), (x3 + ci 1)))
set_option maxRecDepth 4000 in
theorem k_X12_lookedAt_41 {N : Nat} {xs : Nat → Int32} (d : Nat) {r : Option Value × mH} {s : mG} {x1 : Int32} {x3 : Int32} {y0 : Int32} {y1 : Int32} {τ : ((Int32 × Int32 × Int32) ⊕ (Int32))} (hJ : F_X12_lookedAt_41 s x1 x3 y0 y1 = some τ) (hC : (C_X12_lookedAt_4 N xs s d r (fun τ => r = (some (.int τ), (SH, s)))) τ) : Rn N xs (d + 0) me262 41 [some (.ref 88), some (.int x1), none, some (.int x3)] [(.int y1), (.int y0)] (SH, s) r := by
  unfold F_X12_lookedAt_41 at hJ
  refine Rn_sq srt262 28 4 (pc' := 4) (ls' := [some (.ref 88), some (.int x1), some (.int (y0 ||| y1)), some (.int (x3 + ci 1))]) (st' := []) (h1 := (SH, s)) rfl ?_
  rw [← Option.some.inj hJ] at hC
  exact hC
def F_X12_lookedAt_B4 (s : mG) (x1 : Int32) (x2 : Int32) (x3 : Int32) : Option ((Int32 × Int32 × Int32) ⊕ (Int32)) :=
  if (s.1 89 115) ≤ x3 then
    some (Sum.inr x2)
  else
    if (((c8 39) + ((c8 6) * x1)) + x3) < 0 ∨ 1894 ≤ (((c8 39) + ((c8 6) * x1)) + x3).toNatClampNeg then none else
    if (s.1 89 (((c8 39) + ((c8 6) * x1)) + x3).toNatClampNeg) = (ci (-1)) then
      F_X12_lookedAt_41 s x1 x3 x2 (ci 0)
    else
      F_X12_lookedAt_41 s x1 x3 x2 ((ci 1) <<< (x3 &&& 31))
set_option maxRecDepth 4000 in
theorem k_X12_lookedAt_B4 {N : Nat} {xs : Nat → Int32} (d : Nat) {r : Option Value × mH} {s : mG} {x1 : Int32} {x2 : Int32} {x3 : Int32} {τ : ((Int32 × Int32 × Int32) ⊕ (Int32))} (hJ : F_X12_lookedAt_B4 s x1 x2 x3 = some τ) (hC : (C_X12_lookedAt_4 N xs s d r (fun τ => r = (some (.int τ), (SH, s)))) τ) : Rn N xs (d + 0) me262 4 [some (.ref 88), some (.int x1), some (.int x2), some (.int x3)] [] (SH, s) r := by
  unfold F_X12_lookedAt_B4 at hJ
  refine Rn_sq srt262 4 4 (pc' := 11) (ls' := [some (.ref 88), some (.int x1), some (.int x2), some (.int x3)]) (st' := [(.int (c8 115)), (.ref 89), (.int x3)]) (h1 := (SH, s)) rfl ?_
  refine Rn_ev srt262 8 rfl rfl rfl (op_ia sh89 (by decide) (k := 115) rfl) ?_
  refine Rn_sq srt262 9 1 (pc' := (if (s.1 89 115) ≤ x3 then 49 else 15)) (ls' := [some (.ref 88), some (.int x1), some (.int x2), some (.int x3)]) (st' := []) (h1 := (SH, s)) rfl (Rn_if (fun h1 => ?_) (fun h1 => ?_))
  · replace hJ := m_ifp h1 hJ
    refine Rn_sq srt262 32 1 (pc' := 50) (ls' := [some (.ref 88), some (.int x1), some (.int x2), some (.int x3)]) (st' := [(.int x2)]) (h1 := (SH, s)) rfl ?_
    rw [← Option.some.inj hJ] at hC
    have hC : r = (some (.int x2), (SH, s)) := hC
    subst hC
    exact Rn_ret srt262 33 rfl rfl rfl
  · replace hJ := m_ifn h1 hJ
    refine Rn_sq srt262 10 10 (pc' := 29) (ls' := [some (.ref 88), some (.int x1), some (.int x2), some (.int x3)]) (st' := [(.int (((c8 39) + ((c8 6) * x1)) + x3)), (.ref 89), (.int x2)]) (h1 := (SH, s)) rfl ?_
    obtain ⟨h2, hJ⟩ := m_gn hJ
    refine Rn_ev srt262 20 rfl rfl rfl (op_ia sh89 h2 (k := (((c8 39) + ((c8 6) * x1)) + x3).toNatClampNeg) rfl) ?_
    refine Rn_sq srt262 21 2 (pc' := (if (s.1 89 (((c8 39) + ((c8 6) * x1)) + x3).toNatClampNeg) = (ci (-1)) then 40 else 34)) (ls' := [some (.ref 88), some (.int x1), some (.int x2), some (.int x3)]) (st' := [(.int x2)]) (h1 := (SH, s)) rfl (Rn_if (fun h3 => ?_) (fun h3 => ?_))
    · replace hJ := m_ifp h3 hJ
      refine Rn_sq srt262 27 1 (pc' := 41) (ls' := [some (.ref 88), some (.int x1), some (.int x2), some (.int x3)]) (st' := [(.int (ci 0)), (.int x2)]) (h1 := (SH, s)) rfl ?_
      exact Rn_weaken (a := [some (.ref 88), some (.int x1), none, some (.int x3)]) (b := [some (.ref 88), some (.int x1), some (.int x2), some (.int x3)]) (And.intro rfl (And.intro rfl (And.intro rfl trivial))) rfl (k_X12_lookedAt_41 d hJ hC)
    · replace hJ := m_ifn h3 hJ
      refine Rn_sq srt262 23 4 (pc' := 41) (ls' := [some (.ref 88), some (.int x1), some (.int x2), some (.int x3)]) (st' := [(.int ((ci 1) <<< (x3 &&& 31))), (.int x2)]) (h1 := (SH, s)) rfl ?_
      exact Rn_weaken (a := [some (.ref 88), some (.int x1), none, some (.int x3)]) (b := [some (.ref 88), some (.int x1), some (.int x2), some (.int x3)]) (And.intro rfl (And.intro rfl (And.intro rfl trivial))) rfl (k_X12_lookedAt_41 d hJ hC)
def F_X12_lookedAt_L4 (s : mG) (x1 : Int32) (x2 : Int32) (x3 : Int32) : Option (Int32) := whl (fun (v : (Int32 × Int32 × Int32)) => F_X12_lookedAt_B4 s v.1 v.2.1 v.2.2) (x1, x2, x3)
theorem k_X12_lookedAt_L4 {N : Nat} {xs : Nat → Int32} (d : Nat) {r : Option Value × mH} {s : mG} {x1 : Int32} {x2 : Int32} {x3 : Int32} {τ : (Int32)} (hJ : F_X12_lookedAt_L4 s x1 x2 x3 = some τ) (hC : (fun τ => r = (some (.int τ), (SH, s))) τ) : Rn N xs (d + 0) me262 4 [some (.ref 88), some (.int x1), some (.int x2), some (.int x3)] [] (SH, s) r :=
  whl_link (P := fun (v : (Int32 × Int32 × Int32)) => Rn N xs (d + 0) me262 4 [some (.ref 88), some (.int v.1), some (.int v.2.1), some (.int v.2.2)] [] (SH, s) r) (C := (C_X12_lookedAt_4 N xs s d r (fun τ => r = (some (.int τ), (SH, s))))) (fun v τ h1 h2 => k_X12_lookedAt_B4 d h1 h2) (fun _ h => h) (fun _ h => h) _ _ hJ hC
def F_X12_lookedAt (s : mG) (a1 : Int32) : Option (Int32) :=
  F_X12_lookedAt_L4 s a1 (ci 0) (ci 0)
set_option maxRecDepth 4000 in
theorem k_X12_lookedAt_r {N : Nat} {xs : Nat → Int32} (d : Nat) {r : Option Value × mH} {s : mG} {a1 : Int32} {τ : (Int32)} (hJ : F_X12_lookedAt s a1 = some τ) (hC : (fun τ => r = (some (.int τ), (SH, s))) τ) : Rn N xs (d + 0) me262 0 [some (.ref 88), some (.int a1), none, none] [] (SH, s) r := by
  unfold F_X12_lookedAt at hJ
  refine Rn_sq srt262 0 4 (pc' := 4) (ls' := [some (.ref 88), some (.int a1), some (.int (ci 0)), some (.int (ci 0))]) (st' := []) (h1 := (SH, s)) rfl ?_
  exact (k_X12_lookedAt_L4 d hJ hC)
theorem k_X12_lookedAt {N : Nat} {xs : Nat → Int32} (d : Nat) {s : mG} {a1 : Int32} {τ : (Int32)} (hJ : F_X12_lookedAt s a1 = some τ) : Rn N xs (d + 0) me262 0 [some (.ref 88), some (.int a1), none, none] [] (SH, s) (some (.int τ), (SH, s)) := k_X12_lookedAt_r d hJ rfl
/-! IsHeInModel.nextOf(JI)I -/
theorem srt263 : m_srt mc263 = true := by decide +kernel
def C_X12_nextOf_11 (N : Nat) (xs : Nat → Int32) (s : mG) (d : Nat) (r : Option Value × mH) (C : (Int32) → Prop) : ((Int64 × Int32 × Int32 × Int64 × Int32) ⊕ (Int32)) → Prop
  | .inl v => Rn N xs (d + 3) me263 11 [some (.ref 88), some (.long v.1), none, some (.int v.2.1), some (.int v.2.2.1), some (.long v.2.2.2.1), none, some (.int v.2.2.2.2)] [] (SH, s) r
  | .inr a => C a
def F_X12_nextOf_62 (s : mG) (x1 : Int64) (x3 : Int32) (x4 : Int32) (x5 : Int64) (x7 : Int32) : Option ((Int64 × Int32 × Int32 × Int64 × Int32) ⊕ (Int32)) :=
  some (Sum.inl (x1, x3, x4, x5, (x7 + ci 1)))
set_option maxRecDepth 4000 in
theorem k_X12_nextOf_62 {N : Nat} {xs : Nat → Int32} (d : Nat) {r : Option Value × mH} {s : mG} {x1 : Int64} {x3 : Int32} {x4 : Int32} {x5 : Int64} {x7 : Int32} {τ : ((Int64 × Int32 × Int32 × Int64 × Int32) ⊕ (Int32))} (hJ : F_X12_nextOf_62 s x1 x3 x4 x5 x7 = some τ) (hC : (C_X12_nextOf_11 N xs s d r (fun τ => r = (some (.int τ), (SH, s)))) τ) : Rn N xs (d + 3) me263 62 [some (.ref 88), some (.long x1), none, some (.int x3), some (.int x4), some (.long x5), none, some (.int x7)] [] (SH, s) r := by
  unfold F_X12_nextOf_62 at hJ
  refine Rn_sq srt263 34 2 (pc' := 11) (ls' := [some (.ref 88), some (.long x1), none, some (.int x3), some (.int x4), some (.long x5), none, some (.int (x7 + ci 1))]) (st' := []) (h1 := (SH, s)) rfl ?_
  rw [← Option.some.inj hJ] at hC
  exact hC
def F_X12_nextOf_B11 (s : mG) (x1 : Int64) (x3 : Int32) (x4 : Int32) (x5 : Int64) (x7 : Int32) : Option ((Int64 × Int32 × Int32 × Int64 × Int32) ⊕ (Int32)) :=
  if (s.1 89 115) ≤ x7 then
    some (Sum.inr x4)
  else
    if ((x3 >>> (x7 &&& 31)) &&& (ci 1)) = (ci 1) then
      F_X12_nextOf_62 s x1 x3 x4 x5 x7
    else
      b1 (F_X12_worthOf s x1 x7) fun v4 =>
      if 0 < (lg_cmp v4 x5) then
        b1 (F_X12_worthOf s x1 x7) fun v7 =>
        F_X12_nextOf_62 s x1 x3 x7 v7 x7
      else
        F_X12_nextOf_62 s x1 x3 x4 x5 x7
set_option maxRecDepth 4000 in
theorem k_X12_nextOf_B11 {N : Nat} {xs : Nat → Int32} (d : Nat) {r : Option Value × mH} {s : mG} {x1 : Int64} {x3 : Int32} {x4 : Int32} {x5 : Int64} {x7 : Int32} {τ : ((Int64 × Int32 × Int32 × Int64 × Int32) ⊕ (Int32))} (hJ : F_X12_nextOf_B11 s x1 x3 x4 x5 x7 = some τ) (hC : (C_X12_nextOf_11 N xs s d r (fun τ => r = (some (.int τ), (SH, s)))) τ) : Rn N xs (d + 3) me263 11 [some (.ref 88), some (.long x1), none, some (.int x3), some (.int x4), some (.long x5), none, some (.int x7)] [] (SH, s) r := by
  unfold F_X12_nextOf_B11 at hJ
  refine Rn_sq srt263 6 4 (pc' := 19) (ls' := [some (.ref 88), some (.long x1), none, some (.int x3), some (.int x4), some (.long x5), none, some (.int x7)]) (st' := [(.int (c8 115)), (.ref 89), (.int x7)]) (h1 := (SH, s)) rfl ?_
  refine Rn_ev srt263 10 rfl rfl rfl (op_ia sh89 (by decide) (k := 115) rfl) ?_
  refine Rn_sq srt263 11 1 (pc' := (if (s.1 89 115) ≤ x7 then 68 else 23)) (ls' := [some (.ref 88), some (.long x1), none, some (.int x3), some (.int x4), some (.long x5), none, some (.int x7)]) (st' := []) (h1 := (SH, s)) rfl (Rn_if (fun h1 => ?_) (fun h1 => ?_))
  · replace hJ := m_ifp h1 hJ
    refine Rn_sq srt263 36 1 (pc' := 70) (ls' := [some (.ref 88), some (.long x1), none, some (.int x3), some (.int x4), some (.long x5), none, some (.int x7)]) (st' := [(.int x4)]) (h1 := (SH, s)) rfl ?_
    rw [← Option.some.inj hJ] at hC
    have hC : r = (some (.int x4), (SH, s)) := hC
    subst hC
    exact Rn_ret srt263 37 rfl rfl rfl
  · replace hJ := m_ifn h1 hJ
    refine Rn_sq srt263 12 7 (pc' := (if ((x3 >>> (x7 &&& 31)) &&& (ci 1)) = (ci 1) then 62 else 33)) (ls' := [some (.ref 88), some (.long x1), none, some (.int x3), some (.int x4), some (.long x5), none, some (.int x7)]) (st' := []) (h1 := (SH, s)) rfl (Rn_if (fun h2 => ?_) (fun h2 => ?_))
    · replace hJ := m_ifp h2 hJ
      exact (k_X12_nextOf_62 d hJ hC)
    · replace hJ := m_ifn h2 hJ
      refine Rn_sq srt263 19 3 (pc' := 37) (ls' := [some (.ref 88), some (.long x1), none, some (.int x3), some (.int x4), some (.long x5), none, some (.int x7)]) (st' := [(.int x7), (.long x1), (.ref 88)]) (h1 := (SH, s)) rfl ?_
      obtain ⟨v4, h3, hJ⟩ := m_b1 hJ
      refine Rn_call srt263 22 rfl rfl rfl ⟨Nat.le_of_ble_eq_true rfl, Nat.le_of_ble_eq_true rfl, rfl, Nat.le_of_ble_eq_true rfl⟩ (k_X12_worthOf (d) h3) (show Rn N xs (d + 3) me263 40 [some (.ref 88), some (.long x1), none, some (.int x3), some (.int x4), some (.long x5), none, some (.int x7)] [(.long v4)] (SH, s) r from ?_)
      refine Rn_sq srt263 23 3 (pc' := (if 0 < (lg_cmp v4 x5) then 49 else 46)) (ls' := [some (.ref 88), some (.long x1), none, some (.int x3), some (.int x4), some (.long x5), none, some (.int x7)]) (st' := []) (h1 := (SH, s)) rfl (Rn_if (fun h5 => ?_) (fun h5 => ?_))
      · replace hJ := m_ifp h5 hJ
        refine Rn_sq srt263 27 3 (pc' := 53) (ls' := [some (.ref 88), some (.long x1), none, some (.int x3), some (.int x4), some (.long x5), none, some (.int x7)]) (st' := [(.int x7), (.long x1), (.ref 88)]) (h1 := (SH, s)) rfl ?_
        obtain ⟨v7, h6, hJ⟩ := m_b1 hJ
        refine Rn_call srt263 30 rfl rfl rfl ⟨Nat.le_of_ble_eq_true rfl, Nat.le_of_ble_eq_true rfl, rfl, Nat.le_of_ble_eq_true rfl⟩ (k_X12_worthOf (d) h6) (show Rn N xs (d + 3) me263 56 [some (.ref 88), some (.long x1), none, some (.int x3), some (.int x4), some (.long x5), none, some (.int x7)] [(.long v7)] (SH, s) r from ?_)
        refine Rn_sq srt263 31 3 (pc' := 62) (ls' := [some (.ref 88), some (.long x1), none, some (.int x3), some (.int x7), some (.long v7), none, some (.int x7)]) (st' := []) (h1 := (SH, s)) rfl ?_
        exact (k_X12_nextOf_62 d hJ hC)
      · replace hJ := m_ifn h5 hJ
        refine Rn_sq srt263 26 1 (pc' := 62) (ls' := [some (.ref 88), some (.long x1), none, some (.int x3), some (.int x4), some (.long x5), none, some (.int x7)]) (st' := []) (h1 := (SH, s)) rfl ?_
        exact (k_X12_nextOf_62 d hJ hC)
def F_X12_nextOf_L11 (s : mG) (x1 : Int64) (x3 : Int32) (x4 : Int32) (x5 : Int64) (x7 : Int32) : Option (Int32) := whl (fun (v : (Int64 × Int32 × Int32 × Int64 × Int32)) => F_X12_nextOf_B11 s v.1 v.2.1 v.2.2.1 v.2.2.2.1 v.2.2.2.2) (x1, x3, x4, x5, x7)
theorem k_X12_nextOf_L11 {N : Nat} {xs : Nat → Int32} (d : Nat) {r : Option Value × mH} {s : mG} {x1 : Int64} {x3 : Int32} {x4 : Int32} {x5 : Int64} {x7 : Int32} {τ : (Int32)} (hJ : F_X12_nextOf_L11 s x1 x3 x4 x5 x7 = some τ) (hC : (fun τ => r = (some (.int τ), (SH, s))) τ) : Rn N xs (d + 3) me263 11 [some (.ref 88), some (.long x1), none, some (.int x3), some (.int x4), some (.long x5), none, some (.int x7)] [] (SH, s) r :=
  whl_link (P := fun (v : (Int64 × Int32 × Int32 × Int64 × Int32)) => Rn N xs (d + 3) me263 11 [some (.ref 88), some (.long v.1), none, some (.int v.2.1), some (.int v.2.2.1), some (.long v.2.2.2.1), none, some (.int v.2.2.2.2)] [] (SH, s) r) (C := (C_X12_nextOf_11 N xs s d r (fun τ => r = (some (.int τ), (SH, s))))) (fun v τ h1 h2 => k_X12_nextOf_B11 d h1 h2) (fun _ h => h) (fun _ h => h) _ _ hJ hC
def F_X12_nextOf (s : mG) (a1 : Int64) (a2 : Int32) : Option (Int32) :=
  F_X12_nextOf_L11 s a1 a2 (ci (-1)) (cl (-1)) (ci 0)
set_option maxRecDepth 4000 in
theorem k_X12_nextOf_r {N : Nat} {xs : Nat → Int32} (d : Nat) {r : Option Value × mH} {s : mG} {a1 : Int64} {a2 : Int32} {τ : (Int32)} (hJ : F_X12_nextOf s a1 a2 = some τ) (hC : (fun τ => r = (some (.int τ), (SH, s))) τ) : Rn N xs (d + 3) me263 0 [some (.ref 88), some (.long a1), none, some (.int a2), none, none, none, none] [] (SH, s) r := by
  unfold F_X12_nextOf at hJ
  refine Rn_sq srt263 0 6 (pc' := 11) (ls' := [some (.ref 88), some (.long a1), none, some (.int a2), some (.int (ci (-1))), some (.long (cl (-1))), none, some (.int (ci 0))]) (st' := []) (h1 := (SH, s)) rfl ?_
  exact (k_X12_nextOf_L11 d hJ hC)
theorem k_X12_nextOf {N : Nat} {xs : Nat → Int32} (d : Nat) {s : mG} {a1 : Int64} {a2 : Int32} {τ : (Int32)} (hJ : F_X12_nextOf s a1 a2 = some τ) : Rn N xs (d + 3) me263 0 [some (.ref 88), some (.long a1), none, some (.int a2), none, none, none, none] [] (SH, s) (some (.int τ), (SH, s)) := k_X12_nextOf_r d hJ rfl
/-! IsHeInModel.next(I)I -/
theorem srt264 : m_srt mc264 = true := by decide +kernel
def F_X12_next (a1 : Int32) (s : mG) : Option (Int32 × mG) :=
  b1 (F_X12_isGuest s a1) fun v2 =>
  if v2 = 0 then
    some ((ci (-1)), s)
  else
    b2 (F_X12_sureOf a1 s) fun v6 s5 =>
    b1 (F_X12_lookedAt s5 a1) fun v8 =>
    b1 (F_X12_nextOf s5 v6 v8) fun v10 =>
    some (v10, s5)
set_option maxRecDepth 4000 in
theorem k_X12_next_r {N : Nat} {xs : Nat → Int32} (d : Nat) {r : Option Value × mH} {s : mG} {a1 : Int32} {τ : (Int32 × mG)} (hJ : F_X12_next a1 s = some τ) (hC : (fun τ => r = (some (.int τ.1), (SH, τ.2))) τ) : Rn N xs (d + 6) me264 0 [some (.ref 88), some (.int a1)] [] (SH, s) r := by
  unfold F_X12_next at hJ
  refine Rn_sq srt264 0 2 (pc' := 2) (ls' := [some (.ref 88), some (.int a1)]) (st' := [(.int a1), (.ref 88)]) (h1 := (SH, s)) rfl ?_
  obtain ⟨v2, h1, hJ⟩ := m_b1 hJ
  refine Rn_call srt264 2 rfl rfl rfl ⟨Nat.le_of_ble_eq_true rfl, Nat.le_of_ble_eq_true rfl, rfl, Nat.le_of_ble_eq_true rfl⟩ (k_X12_isGuest (d + 4) h1) (show Rn N xs (d + 6) me264 5 [some (.ref 88), some (.int a1)] [(.int v2)] (SH, s) r from ?_)
  refine Rn_sq srt264 3 1 (pc' := (if v2 = 0 then 25 else 8)) (ls' := [some (.ref 88), some (.int a1)]) (st' := []) (h1 := (SH, s)) rfl (Rn_if (fun h3 => ?_) (fun h3 => ?_))
  · replace hJ := m_ifp h3 hJ
    refine Rn_sq srt264 13 1 (pc' := 26) (ls' := [some (.ref 88), some (.int a1)]) (st' := [(.int (ci (-1)))]) (h1 := (SH, s)) rfl ?_
    rw [← Option.some.inj hJ] at hC
    have hC : r = (some (.int (ci (-1))), (SH, s)) := hC
    subst hC
    exact Rn_ret srt264 14 rfl rfl rfl
  · replace hJ := m_ifn h3 hJ
    refine Rn_sq srt264 4 3 (pc' := 11) (ls' := [some (.ref 88), some (.int a1)]) (st' := [(.int a1), (.ref 88), (.ref 88)]) (h1 := (SH, s)) rfl ?_
    obtain ⟨v6, s5, h4, hJ⟩ := m_b2 hJ
    refine Rn_call srt264 7 rfl rfl rfl ⟨Nat.le_of_ble_eq_true rfl, Nat.le_of_ble_eq_true rfl, rfl, Nat.le_of_ble_eq_true rfl⟩ (k_X12_sureOf (d) h4) (show Rn N xs (d + 6) me264 14 [some (.ref 88), some (.int a1)] [(.long v6), (.ref 88)] (SH, s5) r from ?_)
    refine Rn_sq srt264 8 2 (pc' := 16) (ls' := [some (.ref 88), some (.int a1)]) (st' := [(.int a1), (.ref 88), (.long v6), (.ref 88)]) (h1 := (SH, s5)) rfl ?_
    obtain ⟨v8, h7, hJ⟩ := m_b1 hJ
    refine Rn_call srt264 10 rfl rfl rfl ⟨Nat.le_of_ble_eq_true rfl, Nat.le_of_ble_eq_true rfl, rfl, Nat.le_of_ble_eq_true rfl⟩ (k_X12_lookedAt (d + 5) h7) (show Rn N xs (d + 6) me264 19 [some (.ref 88), some (.int a1)] [(.int v8), (.long v6), (.ref 88)] (SH, s5) r from ?_)
    obtain ⟨v10, h9, hJ⟩ := m_b1 hJ
    refine Rn_call srt264 11 rfl rfl rfl ⟨Nat.le_of_ble_eq_true rfl, Nat.le_of_ble_eq_true rfl, rfl, Nat.le_of_ble_eq_true rfl⟩ (k_X12_nextOf (d + 2) h9) (show Rn N xs (d + 6) me264 22 [some (.ref 88), some (.int a1)] [(.int v10)] (SH, s5) r from ?_)
    refine Rn_sq srt264 12 1 (pc' := 26) (ls' := [some (.ref 88), some (.int a1)]) (st' := [(.int v10)]) (h1 := (SH, s5)) rfl ?_
    rw [← Option.some.inj hJ] at hC
    have hC : r = (some (.int v10), (SH, s5)) := hC
    subst hC
    exact Rn_ret srt264 14 rfl rfl rfl
theorem k_X12_next {N : Nat} {xs : Nat → Int32} (d : Nat) {s : mG} {a1 : Int32} {τ : (Int32 × mG)} (hJ : F_X12_next a1 s = some τ) : Rn N xs (d + 6) me264 0 [some (.ref 88), some (.int a1)] [] (SH, s) (some (.int τ.1), (SH, τ.2)) := k_X12_next_r d hJ rfl
end
