noncomputable section
/-! IsHeIn$Foresight.costOfTag(III)I -/
theorem srt29 : m_srt mc29 = true := by decide +kernel
def C_X1_costOfTag_6 (N : Nat) (xs : Nat → Int32) (d : Nat) (r : Option Value × mH) (C : (Int32 × mG) → Prop) : ((Int32 × Int32 × Int32 × Int32 × Int32 × mG) ⊕ (Int32 × mG)) → Prop
  | .inl v => Rn N xs (d + 3) me29 6 [some (.ref 77), some (.int v.1), some (.int v.2.1), some (.int v.2.2.1), some (.int v.2.2.2.1), some (.int v.2.2.2.2.1)] [] (SH, v.2.2.2.2.2) r
  | .inr a => C a
def F_X1_costOfTag_B6 (x1 : Int32) (x2 : Int32) (x3 : Int32) (x4 : Int32) (x5 : Int32) (s : mG) : Option ((Int32 × Int32 × Int32 × Int32 × Int32 × mG) ⊕ (Int32 × mG)) :=
  if (s.1 2 3) ≤ x5 then
    let v2 : Int32 := (((x4 * x1) / (c16 1000)) + (x3 * x2))
    some (Sum.inr (v2, s))
  else
    b1 (F_X3_face x5 s) fun s4 =>
    b1 (F_X3_suppose (ci 5) x3 s4) fun s6 =>
    b2 (F_X3_tells (ci 2) s6) fun v9 s8 =>
    some (Sum.inl (x1, x2, x3, (x4 + v9), (x5 + ci 1), s8))
set_option maxRecDepth 4000 in
theorem k_X1_costOfTag_B6 {N : Nat} {xs : Nat → Int32} (d : Nat) {r : Option Value × mH} {s : mG} {x1 : Int32} {x2 : Int32} {x3 : Int32} {x4 : Int32} {x5 : Int32} {τ : ((Int32 × Int32 × Int32 × Int32 × Int32 × mG) ⊕ (Int32 × mG))} (hJ : F_X1_costOfTag_B6 x1 x2 x3 x4 x5 s = some τ) (hC : (C_X1_costOfTag_6 N xs d r (fun τ => r = (some (.int τ.1), (SH, τ.2)))) τ) : Rn N xs (d + 3) me29 6 [some (.ref 77), some (.int x1), some (.int x2), some (.int x3), some (.int x4), some (.int x5)] [] (SH, s) r := by
  unfold F_X1_costOfTag_B6 at hJ
  refine Rn_sq srt29 4 6 (pc' := (if (s.1 2 3) ≤ x5 then 58 else 21)) (ls' := [some (.ref 77), some (.int x1), some (.int x2), some (.int x3), some (.int x4), some (.int x5)]) (st' := []) (h1 := (SH, s)) rfl (Rn_if (fun h1 => ?_) (fun h1 => ?_))
  · replace hJ := m_ifp h1 hJ
    refine Rn_sq srt29 28 4 (pc' := 65) (ls' := [some (.ref 77), some (.int x1), some (.int x2), some (.int x3), some (.int x4), some (.int x5)]) (st' := [(.int (c16 1000)), (.int (x4 * x1))]) (h1 := (SH, s)) rfl ?_
    refine Rn_ev srt29 32 rfl rfl rfl (op_idiv (by decide)) ?_
    refine Rn_sq srt29 33 4 (pc' := 70) (ls' := [some (.ref 77), some (.int x1), some (.int x2), some (.int x3), some (.int x4), some (.int x5)]) (st' := [(.int (((x4 * x1) / (c16 1000)) + (x3 * x2)))]) (h1 := (SH, s)) rfl ?_
    extract_lets +onlyGivenNames v2 at hJ
    rw [← Option.some.inj hJ] at hC
    have hC : r = (some (.int (((x4 * x1) / (c16 1000)) + (x3 * x2))), (SH, s)) := hC
    subst hC
    exact Rn_ret srt29 37 rfl rfl rfl
  · replace hJ := m_ifn h1 hJ
    refine Rn_sq srt29 10 3 (pc' := 27) (ls' := [some (.ref 77), some (.int x1), some (.int x2), some (.int x3), some (.int x4), some (.int x5)]) (st' := [(.int x5), (.ref 68)]) (h1 := (SH, s)) rfl ?_
    obtain ⟨s4, h3, hJ⟩ := m_b1 hJ
    refine Rn_call srt29 13 rfl rfl rfl ⟨Nat.le_of_ble_eq_true rfl, Nat.le_of_ble_eq_true rfl, rfl, Nat.le_of_ble_eq_true rfl⟩ (k_X3_face (d) h3) (show Rn N xs (d + 3) me29 30 [some (.ref 77), some (.int x1), some (.int x2), some (.int x3), some (.int x4), some (.int x5)] [] (SH, s4) r from ?_)
    refine Rn_sq srt29 14 4 (pc' := 36) (ls' := [some (.ref 77), some (.int x1), some (.int x2), some (.int x3), some (.int x4), some (.int x5)]) (st' := [(.int x3), (.int (ci 5)), (.ref 68)]) (h1 := (SH, s4)) rfl ?_
    obtain ⟨s6, h5, hJ⟩ := m_b1 hJ
    refine Rn_call srt29 18 rfl rfl rfl ⟨Nat.le_of_ble_eq_true rfl, Nat.le_of_ble_eq_true rfl, rfl, Nat.le_of_ble_eq_true rfl⟩ (k_X3_suppose (d + 1) h5) (show Rn N xs (d + 3) me29 39 [some (.ref 77), some (.int x1), some (.int x2), some (.int x3), some (.int x4), some (.int x5)] [] (SH, s6) r from ?_)
    refine Rn_sq srt29 19 4 (pc' := 46) (ls' := [some (.ref 77), some (.int x1), some (.int x2), some (.int x3), some (.int x4), some (.int x5)]) (st' := [(.int (ci 2)), (.ref 68), (.int x4)]) (h1 := (SH, s6)) rfl ?_
    obtain ⟨v9, s8, h7, hJ⟩ := m_b2 hJ
    refine Rn_call srt29 23 rfl rfl rfl ⟨Nat.le_of_ble_eq_true rfl, Nat.le_of_ble_eq_true rfl, rfl, Nat.le_of_ble_eq_true rfl⟩ (k_X3_tells (d) h7) (show Rn N xs (d + 3) me29 49 [some (.ref 77), some (.int x1), some (.int x2), some (.int x3), some (.int x4), some (.int x5)] [(.int v9), (.int x4)] (SH, s8) r from ?_)
    refine Rn_sq srt29 24 4 (pc' := 6) (ls' := [some (.ref 77), some (.int x1), some (.int x2), some (.int x3), some (.int (x4 + v9)), some (.int (x5 + ci 1))]) (st' := []) (h1 := (SH, s8)) rfl ?_
    rw [← Option.some.inj hJ] at hC
    exact hC
def F_X1_costOfTag_L6 (x1 : Int32) (x2 : Int32) (x3 : Int32) (x4 : Int32) (x5 : Int32) (s : mG) : Option (Int32 × mG) := whl (fun (v : (Int32 × Int32 × Int32 × Int32 × Int32 × mG)) => F_X1_costOfTag_B6 v.1 v.2.1 v.2.2.1 v.2.2.2.1 v.2.2.2.2.1 v.2.2.2.2.2) (x1, x2, x3, x4, x5, s)
theorem k_X1_costOfTag_L6 {N : Nat} {xs : Nat → Int32} (d : Nat) {r : Option Value × mH} {s : mG} {x1 : Int32} {x2 : Int32} {x3 : Int32} {x4 : Int32} {x5 : Int32} {τ : (Int32 × mG)} (hJ : F_X1_costOfTag_L6 x1 x2 x3 x4 x5 s = some τ) (hC : (fun τ => r = (some (.int τ.1), (SH, τ.2))) τ) : Rn N xs (d + 3) me29 6 [some (.ref 77), some (.int x1), some (.int x2), some (.int x3), some (.int x4), some (.int x5)] [] (SH, s) r :=
  whl_link (P := fun (v : (Int32 × Int32 × Int32 × Int32 × Int32 × mG)) => Rn N xs (d + 3) me29 6 [some (.ref 77), some (.int v.1), some (.int v.2.1), some (.int v.2.2.1), some (.int v.2.2.2.1), some (.int v.2.2.2.2.1)] [] (SH, v.2.2.2.2.2) r) (C := (C_X1_costOfTag_6 N xs d r (fun τ => r = (some (.int τ.1), (SH, τ.2))))) (fun v τ h1 h2 => k_X1_costOfTag_B6 d h1 h2) (fun _ h => h) (fun _ h => h) _ _ hJ hC
def F_X1_costOfTag (a1 : Int32) (a2 : Int32) (a3 : Int32) (s : mG) : Option (Int32 × mG) :=
  F_X1_costOfTag_L6 a1 a2 a3 (ci 0) (ci 0) s
set_option maxRecDepth 4000 in
theorem k_X1_costOfTag_r {N : Nat} {xs : Nat → Int32} (d : Nat) {r : Option Value × mH} {s : mG} {a1 : Int32} {a2 : Int32} {a3 : Int32} {τ : (Int32 × mG)} (hJ : F_X1_costOfTag a1 a2 a3 s = some τ) (hC : (fun τ => r = (some (.int τ.1), (SH, τ.2))) τ) : Rn N xs (d + 3) me29 0 [some (.ref 77), some (.int a1), some (.int a2), some (.int a3), none, none] [] (SH, s) r := by
  unfold F_X1_costOfTag at hJ
  refine Rn_sq srt29 0 4 (pc' := 6) (ls' := [some (.ref 77), some (.int a1), some (.int a2), some (.int a3), some (.int (ci 0)), some (.int (ci 0))]) (st' := []) (h1 := (SH, s)) rfl ?_
  exact (k_X1_costOfTag_L6 d hJ hC)
theorem k_X1_costOfTag {N : Nat} {xs : Nat → Int32} (d : Nat) {s : mG} {a1 : Int32} {a2 : Int32} {a3 : Int32} {τ : (Int32 × mG)} (hJ : F_X1_costOfTag a1 a2 a3 s = some τ) : Rn N xs (d + 3) me29 0 [some (.ref 77), some (.int a1), some (.int a2), some (.int a3), none, none] [] (SH, s) (some (.int τ.1), (SH, τ.2)) := k_X1_costOfTag_r d hJ rfl
/-! IsHeIn$Foresight.bestTag(II)I -/
theorem srt30 : m_srt mc30 = true := by decide +kernel
def C_X1_bestTag_14 (N : Nat) (xs : Nat → Int32) (d : Nat) (r : Option Value × mH) (C : (Int32 × mG) → Prop) : ((Int32 × Int32 × Int32 × Int32 × Int32 × mG) ⊕ (Int32 × mG)) → Prop
  | .inl v => Rn N xs (d + 4) me30 14 [some (.ref 77), some (.int v.1), some (.int v.2.1), some (.int v.2.2.1), some (.int v.2.2.2.1), some (.int v.2.2.2.2.1), none] [] (SH, v.2.2.2.2.2) r
  | .inr a => C a
def F_X1_bestTag_45 (x1 : Int32) (x2 : Int32) (x3 : Int32) (x4 : Int32) (x5 : Int32) (s : mG) : Option ((Int32 × Int32 × Int32 × Int32 × Int32 × mG) ⊕ (Int32 × mG)) :=
  some (Sum.inl (x1, x2, x3, x4, (x5 + ci 1), s))
set_option maxRecDepth 4000 in
theorem k_X1_bestTag_45 {N : Nat} {xs : Nat → Int32} (d : Nat) {r : Option Value × mH} {s : mG} {x1 : Int32} {x2 : Int32} {x3 : Int32} {x4 : Int32} {x5 : Int32} {τ : ((Int32 × Int32 × Int32 × Int32 × Int32 × mG) ⊕ (Int32 × mG))} (hJ : F_X1_bestTag_45 x1 x2 x3 x4 x5 s = some τ) (hC : (C_X1_bestTag_14 N xs d r (fun τ => r = (some (.int τ.1), (SH, τ.2)))) τ) : Rn N xs (d + 4) me30 45 [some (.ref 77), some (.int x1), some (.int x2), some (.int x3), some (.int x4), some (.int x5), none] [] (SH, s) r := by
  unfold F_X1_bestTag_45 at hJ
  refine Rn_sq srt30 26 2 (pc' := 14) (ls' := [some (.ref 77), some (.int x1), some (.int x2), some (.int x3), some (.int x4), some (.int (x5 + ci 1)), none]) (st' := []) (h1 := (SH, s)) rfl ?_
  rw [← Option.some.inj hJ] at hC
  exact hC
def F_X1_bestTag_B14 (x1 : Int32) (x2 : Int32) (x3 : Int32) (x4 : Int32) (x5 : Int32) (s : mG) : Option ((Int32 × Int32 × Int32 × Int32 × Int32 × mG) ⊕ (Int32 × mG)) :=
  if (c8 20) < x5 then
    some (Sum.inr (x3, s))
  else
    b2 (F_X1_costOfTag x1 x2 x5 s) fun v7 s6 =>
    if x4 ≤ v7 then
      F_X1_bestTag_45 x1 x2 x3 x4 x5 s6
    else
      F_X1_bestTag_45 x1 x2 x5 v7 x5 s6
set_option maxRecDepth 4000 in
theorem k_X1_bestTag_B14 {N : Nat} {xs : Nat → Int32} (d : Nat) {r : Option Value × mH} {s : mG} {x1 : Int32} {x2 : Int32} {x3 : Int32} {x4 : Int32} {x5 : Int32} {τ : ((Int32 × Int32 × Int32 × Int32 × Int32 × mG) ⊕ (Int32 × mG))} (hJ : F_X1_bestTag_B14 x1 x2 x3 x4 x5 s = some τ) (hC : (C_X1_bestTag_14 N xs d r (fun τ => r = (some (.int τ.1), (SH, τ.2)))) τ) : Rn N xs (d + 4) me30 14 [some (.ref 77), some (.int x1), some (.int x2), some (.int x3), some (.int x4), some (.int x5), none] [] (SH, s) r := by
  unfold F_X1_bestTag_B14 at hJ
  refine Rn_sq srt30 10 3 (pc' := (if (c8 20) < x5 then 51 else 21)) (ls' := [some (.ref 77), some (.int x1), some (.int x2), some (.int x3), some (.int x4), some (.int x5), none]) (st' := []) (h1 := (SH, s)) rfl (Rn_if (fun h4 => ?_) (fun h4 => ?_))
  · replace hJ := m_ifp h4 hJ
    refine Rn_sq srt30 28 1 (pc' := 52) (ls' := [some (.ref 77), some (.int x1), some (.int x2), some (.int x3), some (.int x4), some (.int x5), none]) (st' := [(.int x3)]) (h1 := (SH, s)) rfl ?_
    rw [← Option.some.inj hJ] at hC
    have hC : r = (some (.int x3), (SH, s)) := hC
    subst hC
    exact Rn_ret srt30 29 rfl rfl rfl
  · replace hJ := m_ifn h4 hJ
    refine Rn_sq srt30 13 4 (pc' := 26) (ls' := [some (.ref 77), some (.int x1), some (.int x2), some (.int x3), some (.int x4), some (.int x5), none]) (st' := [(.int x5), (.int x2), (.int x1), (.ref 77)]) (h1 := (SH, s)) rfl ?_
    obtain ⟨v7, s6, h5, hJ⟩ := m_b2 hJ
    refine Rn_call srt30 17 rfl rfl rfl ⟨Nat.le_of_ble_eq_true rfl, Nat.le_of_ble_eq_true rfl, rfl, Nat.le_of_ble_eq_true rfl⟩ (k_X1_costOfTag (d) h5) (show Rn N xs (d + 4) me30 29 [some (.ref 77), some (.int x1), some (.int x2), some (.int x3), some (.int x4), some (.int x5), none] [(.int v7)] (SH, s6) r from ?_)
    refine Rn_sq srt30 18 4 (pc' := (if x4 ≤ v7 then 45 else 38)) (ls' := [some (.ref 77), some (.int x1), some (.int x2), some (.int x3), some (.int x4), some (.int x5), some (.int v7)]) (st' := []) (h1 := (SH, s6)) rfl (Rn_if (fun h8 => ?_) (fun h8 => ?_))
    · replace hJ := m_ifp h8 hJ
      exact Rn_weaken (a := [some (.ref 77), some (.int x1), some (.int x2), some (.int x3), some (.int x4), some (.int x5), none]) (b := [some (.ref 77), some (.int x1), some (.int x2), some (.int x3), some (.int x4), some (.int x5), some (.int v7)]) (And.intro rfl (And.intro rfl (And.intro rfl (And.intro rfl (And.intro rfl (And.intro rfl trivial)))))) rfl (k_X1_bestTag_45 d hJ hC)
    · replace hJ := m_ifn h8 hJ
      refine Rn_sq srt30 22 4 (pc' := 45) (ls' := [some (.ref 77), some (.int x1), some (.int x2), some (.int x5), some (.int v7), some (.int x5), some (.int v7)]) (st' := []) (h1 := (SH, s6)) rfl ?_
      exact Rn_weaken (a := [some (.ref 77), some (.int x1), some (.int x2), some (.int x5), some (.int v7), some (.int x5), none]) (b := [some (.ref 77), some (.int x1), some (.int x2), some (.int x5), some (.int v7), some (.int x5), some (.int v7)]) (And.intro rfl (And.intro rfl (And.intro rfl (And.intro rfl (And.intro rfl (And.intro rfl trivial)))))) rfl (k_X1_bestTag_45 d hJ hC)
def F_X1_bestTag_L14 (x1 : Int32) (x2 : Int32) (x3 : Int32) (x4 : Int32) (x5 : Int32) (s : mG) : Option (Int32 × mG) := whl (fun (v : (Int32 × Int32 × Int32 × Int32 × Int32 × mG)) => F_X1_bestTag_B14 v.1 v.2.1 v.2.2.1 v.2.2.2.1 v.2.2.2.2.1 v.2.2.2.2.2) (x1, x2, x3, x4, x5, s)
theorem k_X1_bestTag_L14 {N : Nat} {xs : Nat → Int32} (d : Nat) {r : Option Value × mH} {s : mG} {x1 : Int32} {x2 : Int32} {x3 : Int32} {x4 : Int32} {x5 : Int32} {τ : (Int32 × mG)} (hJ : F_X1_bestTag_L14 x1 x2 x3 x4 x5 s = some τ) (hC : (fun τ => r = (some (.int τ.1), (SH, τ.2))) τ) : Rn N xs (d + 4) me30 14 [some (.ref 77), some (.int x1), some (.int x2), some (.int x3), some (.int x4), some (.int x5), none] [] (SH, s) r :=
  whl_link (P := fun (v : (Int32 × Int32 × Int32 × Int32 × Int32 × mG)) => Rn N xs (d + 4) me30 14 [some (.ref 77), some (.int v.1), some (.int v.2.1), some (.int v.2.2.1), some (.int v.2.2.2.1), some (.int v.2.2.2.2.1), none] [] (SH, v.2.2.2.2.2) r) (C := (C_X1_bestTag_14 N xs d r (fun τ => r = (some (.int τ.1), (SH, τ.2))))) (fun v τ h1 h2 => k_X1_bestTag_B14 d h1 h2) (fun _ h => h) (fun _ h => h) _ _ hJ hC
def F_X1_bestTag (a1 : Int32) (a2 : Int32) (s : mG) : Option (Int32 × mG) :=
  b2 (F_X1_costOfTag a1 a2 (ci 0) s) fun v3 s2 =>
  F_X1_bestTag_L14 a1 a2 (ci 0) v3 (ci 1) s2
set_option maxRecDepth 4000 in
theorem k_X1_bestTag_r {N : Nat} {xs : Nat → Int32} (d : Nat) {r : Option Value × mH} {s : mG} {a1 : Int32} {a2 : Int32} {τ : (Int32 × mG)} (hJ : F_X1_bestTag a1 a2 s = some τ) (hC : (fun τ => r = (some (.int τ.1), (SH, τ.2))) τ) : Rn N xs (d + 4) me30 0 [some (.ref 77), some (.int a1), some (.int a2), none, none, none, none] [] (SH, s) r := by
  unfold F_X1_bestTag at hJ
  refine Rn_sq srt30 0 6 (pc' := 6) (ls' := [some (.ref 77), some (.int a1), some (.int a2), some (.int (ci 0)), none, none, none]) (st' := [(.int (ci 0)), (.int a2), (.int a1), (.ref 77)]) (h1 := (SH, s)) rfl ?_
  obtain ⟨v3, s2, h1, hJ⟩ := m_b2 hJ
  refine Rn_call srt30 6 rfl rfl rfl ⟨Nat.le_of_ble_eq_true rfl, Nat.le_of_ble_eq_true rfl, rfl, Nat.le_of_ble_eq_true rfl⟩ (k_X1_costOfTag (d) h1) (show Rn N xs (d + 4) me30 9 [some (.ref 77), some (.int a1), some (.int a2), some (.int (ci 0)), none, none, none] [(.int v3)] (SH, s2) r from ?_)
  refine Rn_sq srt30 7 3 (pc' := 14) (ls' := [some (.ref 77), some (.int a1), some (.int a2), some (.int (ci 0)), some (.int v3), some (.int (ci 1)), none]) (st' := []) (h1 := (SH, s2)) rfl ?_
  exact (k_X1_bestTag_L14 d hJ hC)
theorem k_X1_bestTag {N : Nat} {xs : Nat → Int32} (d : Nat) {s : mG} {a1 : Int32} {a2 : Int32} {τ : (Int32 × mG)} (hJ : F_X1_bestTag a1 a2 s = some τ) : Rn N xs (d + 4) me30 0 [some (.ref 77), some (.int a1), some (.int a2), none, none, none, none] [] (SH, s) (some (.int τ.1), (SH, τ.2)) := k_X1_bestTag_r d hJ rfl
/-! IsHeIn$Foresight.likeliestToCarry()I -/
theorem srt31 : m_srt mc31 = true := by decide +kernel
def C_X1_likeliestToCarry_6 (N : Nat) (xs : Nat → Int32) (d : Nat) (r : Option Value × mH) (C : (Int32 × mG) → Prop) : ((Int32 × Int32 × Int32 × mG) ⊕ (Int32 × mG)) → Prop
  | .inl v => Rn N xs (d + 3) me31 6 [some (.ref 77), some (.int v.1), some (.int v.2.1), some (.int v.2.2.1), none] [] (SH, v.2.2.2) r
  | .inr a => C a
def F_X1_likeliestToCarry_49 (x1 : Int32) (x2 : Int32) (x3 : Int32) (s : mG) : Option ((Int32 × Int32 × Int32 × mG) ⊕ (Int32 × mG)) :=
  some (Sum.inl (x1, x2, (x3 + ci 1), s))
set_option maxRecDepth 4000 in
theorem k_X1_likeliestToCarry_49 {N : Nat} {xs : Nat → Int32} (d : Nat) {r : Option Value × mH} {s : mG} {x1 : Int32} {x2 : Int32} {x3 : Int32} {τ : ((Int32 × Int32 × Int32 × mG) ⊕ (Int32 × mG))} (hJ : F_X1_likeliestToCarry_49 x1 x2 x3 s = some τ) (hC : (C_X1_likeliestToCarry_6 N xs d r (fun τ => r = (some (.int τ.1), (SH, τ.2)))) τ) : Rn N xs (d + 3) me31 49 [some (.ref 77), some (.int x1), some (.int x2), some (.int x3), none] [] (SH, s) r := by
  unfold F_X1_likeliestToCarry_49 at hJ
  refine Rn_sq srt31 28 2 (pc' := 6) (ls' := [some (.ref 77), some (.int x1), some (.int x2), some (.int (x3 + ci 1)), none]) (st' := []) (h1 := (SH, s)) rfl ?_
  rw [← Option.some.inj hJ] at hC
  exact hC
def F_X1_likeliestToCarry_B6 (x1 : Int32) (x2 : Int32) (x3 : Int32) (s : mG) : Option ((Int32 × Int32 × Int32 × mG) ⊕ (Int32 × mG)) :=
  if (s.1 2 3) ≤ x3 then
    some (Sum.inr (x1, s))
  else
    b1 (F_X3_face x3 s) fun s3 =>
    b2 (F_X3_tells (ci 2) s3) fun v6 s5 =>
    if v6 ≤ x2 then
      F_X1_likeliestToCarry_49 x1 x2 x3 s5
    else
      F_X1_likeliestToCarry_49 x3 v6 x3 s5
set_option maxRecDepth 4000 in
theorem k_X1_likeliestToCarry_B6 {N : Nat} {xs : Nat → Int32} (d : Nat) {r : Option Value × mH} {s : mG} {x1 : Int32} {x2 : Int32} {x3 : Int32} {τ : ((Int32 × Int32 × Int32 × mG) ⊕ (Int32 × mG))} (hJ : F_X1_likeliestToCarry_B6 x1 x2 x3 s = some τ) (hC : (C_X1_likeliestToCarry_6 N xs d r (fun τ => r = (some (.int τ.1), (SH, τ.2)))) τ) : Rn N xs (d + 3) me31 6 [some (.ref 77), some (.int x1), some (.int x2), some (.int x3), none] [] (SH, s) r := by
  unfold F_X1_likeliestToCarry_B6 at hJ
  refine Rn_sq srt31 6 6 (pc' := (if (s.1 2 3) ≤ x3 then 55 else 20)) (ls' := [some (.ref 77), some (.int x1), some (.int x2), some (.int x3), none]) (st' := []) (h1 := (SH, s)) rfl (Rn_if (fun h1 => ?_) (fun h1 => ?_))
  · replace hJ := m_ifp h1 hJ
    refine Rn_sq srt31 30 1 (pc' := 56) (ls' := [some (.ref 77), some (.int x1), some (.int x2), some (.int x3), none]) (st' := [(.int x1)]) (h1 := (SH, s)) rfl ?_
    rw [← Option.some.inj hJ] at hC
    have hC : r = (some (.int x1), (SH, s)) := hC
    subst hC
    exact Rn_ret srt31 31 rfl rfl rfl
  · replace hJ := m_ifn h1 hJ
    refine Rn_sq srt31 12 3 (pc' := 25) (ls' := [some (.ref 77), some (.int x1), some (.int x2), some (.int x3), none]) (st' := [(.int x3), (.ref 68)]) (h1 := (SH, s)) rfl ?_
    obtain ⟨s3, h2, hJ⟩ := m_b1 hJ
    refine Rn_call srt31 15 rfl rfl rfl ⟨Nat.le_of_ble_eq_true rfl, Nat.le_of_ble_eq_true rfl, rfl, Nat.le_of_ble_eq_true rfl⟩ (k_X3_face (d) h2) (show Rn N xs (d + 3) me31 28 [some (.ref 77), some (.int x1), some (.int x2), some (.int x3), none] [] (SH, s3) r from ?_)
    refine Rn_sq srt31 16 3 (pc' := 33) (ls' := [some (.ref 77), some (.int x1), some (.int x2), some (.int x3), none]) (st' := [(.int (ci 2)), (.ref 68)]) (h1 := (SH, s3)) rfl ?_
    obtain ⟨v6, s5, h4, hJ⟩ := m_b2 hJ
    refine Rn_call srt31 19 rfl rfl rfl ⟨Nat.le_of_ble_eq_true rfl, Nat.le_of_ble_eq_true rfl, rfl, Nat.le_of_ble_eq_true rfl⟩ (k_X3_tells (d) h4) (show Rn N xs (d + 3) me31 36 [some (.ref 77), some (.int x1), some (.int x2), some (.int x3), none] [(.int v6)] (SH, s5) r from ?_)
    refine Rn_sq srt31 20 4 (pc' := (if v6 ≤ x2 then 49 else 44)) (ls' := [some (.ref 77), some (.int x1), some (.int x2), some (.int x3), some (.int v6)]) (st' := []) (h1 := (SH, s5)) rfl (Rn_if (fun h7 => ?_) (fun h7 => ?_))
    · replace hJ := m_ifp h7 hJ
      exact Rn_weaken (a := [some (.ref 77), some (.int x1), some (.int x2), some (.int x3), none]) (b := [some (.ref 77), some (.int x1), some (.int x2), some (.int x3), some (.int v6)]) (And.intro rfl (And.intro rfl (And.intro rfl (And.intro rfl trivial)))) rfl (k_X1_likeliestToCarry_49 d hJ hC)
    · replace hJ := m_ifn h7 hJ
      refine Rn_sq srt31 24 4 (pc' := 49) (ls' := [some (.ref 77), some (.int x3), some (.int v6), some (.int x3), some (.int v6)]) (st' := []) (h1 := (SH, s5)) rfl ?_
      exact Rn_weaken (a := [some (.ref 77), some (.int x3), some (.int v6), some (.int x3), none]) (b := [some (.ref 77), some (.int x3), some (.int v6), some (.int x3), some (.int v6)]) (And.intro rfl (And.intro rfl (And.intro rfl (And.intro rfl trivial)))) rfl (k_X1_likeliestToCarry_49 d hJ hC)
def F_X1_likeliestToCarry_L6 (x1 : Int32) (x2 : Int32) (x3 : Int32) (s : mG) : Option (Int32 × mG) := whl (fun (v : (Int32 × Int32 × Int32 × mG)) => F_X1_likeliestToCarry_B6 v.1 v.2.1 v.2.2.1 v.2.2.2) (x1, x2, x3, s)
theorem k_X1_likeliestToCarry_L6 {N : Nat} {xs : Nat → Int32} (d : Nat) {r : Option Value × mH} {s : mG} {x1 : Int32} {x2 : Int32} {x3 : Int32} {τ : (Int32 × mG)} (hJ : F_X1_likeliestToCarry_L6 x1 x2 x3 s = some τ) (hC : (fun τ => r = (some (.int τ.1), (SH, τ.2))) τ) : Rn N xs (d + 3) me31 6 [some (.ref 77), some (.int x1), some (.int x2), some (.int x3), none] [] (SH, s) r :=
  whl_link (P := fun (v : (Int32 × Int32 × Int32 × mG)) => Rn N xs (d + 3) me31 6 [some (.ref 77), some (.int v.1), some (.int v.2.1), some (.int v.2.2.1), none] [] (SH, v.2.2.2) r) (C := (C_X1_likeliestToCarry_6 N xs d r (fun τ => r = (some (.int τ.1), (SH, τ.2))))) (fun v τ h1 h2 => k_X1_likeliestToCarry_B6 d h1 h2) (fun _ h => h) (fun _ h => h) _ _ hJ hC
def F_X1_likeliestToCarry (s : mG) : Option (Int32 × mG) :=
  F_X1_likeliestToCarry_L6 (ci (-1)) (ci (-1)) (ci 0) s
set_option maxRecDepth 4000 in
theorem k_X1_likeliestToCarry_r {N : Nat} {xs : Nat → Int32} (d : Nat) {r : Option Value × mH} {s : mG} {τ : (Int32 × mG)} (hJ : F_X1_likeliestToCarry s = some τ) (hC : (fun τ => r = (some (.int τ.1), (SH, τ.2))) τ) : Rn N xs (d + 3) me31 0 [some (.ref 77), none, none, none, none] [] (SH, s) r := by
  unfold F_X1_likeliestToCarry at hJ
  refine Rn_sq srt31 0 6 (pc' := 6) (ls' := [some (.ref 77), some (.int (ci (-1))), some (.int (ci (-1))), some (.int (ci 0)), none]) (st' := []) (h1 := (SH, s)) rfl ?_
  exact (k_X1_likeliestToCarry_L6 d hJ hC)
theorem k_X1_likeliestToCarry {N : Nat} {xs : Nat → Int32} (d : Nat) {s : mG} {τ : (Int32 × mG)} (hJ : F_X1_likeliestToCarry s = some τ) : Rn N xs (d + 3) me31 0 [some (.ref 77), none, none, none, none] [] (SH, s) (some (.int τ.1), (SH, τ.2)) := k_X1_likeliestToCarry_r d hJ rfl
/-! IsHeIn$Table.put(III)V -/
theorem srt134 : m_srt mc134 = true := by decide +kernel
def F_X10_put_39 (t : Nat) (x3 : Int32) (x4 : Int32) (y0 : Int32) (s : mG) : Option (mG) :=
  if y0 = 0 then
    some s
  else
    if x4 < 0 then
      some s
    else
      if (cn (m_alen (t + 1))) ≤ x4 then
        some s
      else
        if x4 < 0 ∨ m_alen (t + 1) ≤ x4.toNatClampNeg then none else
        let s7 : mG := (mu s.1 (t + 1) x4.toNatClampNeg x3, s.2)
        some s7
set_option maxRecDepth 4000 in
theorem k_X10_put_39 {N : Nat} {xs : Nat → Int32} (t : Nat) (d : Nat) (h_t : isT t) {r : Option Value × mH} {s : mG} {x3 : Int32} {x4 : Int32} {y0 : Int32} {τ : (mG)} (hJ : F_X10_put_39 t x3 x4 y0 s = some τ) (hC : (fun τ => r = (none, (SH, τ))) τ) : Rn N xs (d + 0) me134 39 [some (.ref t), none, none, some (.int x3), some (.int x4), none] [(.int y0)] (SH, s) r := by
  unfold F_X10_put_39 at hJ
  refine Rn_sq srt134 22 3 (pc' := (if y0 = 0 then 69 else 46)) (ls' := [some (.ref t), none, none, some (.int x3), some (.int x4), some (.int y0)]) (st' := []) (h1 := (SH, s)) rfl (Rn_if (fun h3 => ?_) (fun h3 => ?_))
  · replace hJ := m_ifp h3 hJ
    rw [← Option.some.inj hJ] at hC
    have hC : r = (none, (SH, s)) := hC
    subst hC
    exact Rn_ret srt134 37 rfl rfl rfl
  · replace hJ := m_ifn h3 hJ
    refine Rn_sq srt134 25 2 (pc' := (if x4 < 0 then 69 else 51)) (ls' := [some (.ref t), none, none, some (.int x3), some (.int x4), some (.int y0)]) (st' := []) (h1 := (SH, s)) rfl (Rn_if (fun h4 => ?_) (fun h4 => ?_))
    · replace hJ := m_ifp h4 hJ
      rw [← Option.some.inj hJ] at hC
      have hC : r = (none, (SH, s)) := hC
      subst hC
      exact Rn_ret srt134 37 rfl rfl rfl
    · replace hJ := m_ifn h4 hJ
      refine Rn_sq srt134 27 2 (pc' := 54) (ls' := [some (.ref t), none, none, some (.int x3), some (.int x4), some (.int y0)]) (st' := [(.ref t), (.int x4)]) (h1 := (SH, s)) rfl ?_
      refine Rn_ev srt134 29 rfl rfl rfl (op_gfT2 h_t) ?_
      refine Rn_ev srt134 30 rfl rfl rfl (op_alT h_t) ?_
      refine Rn_sq srt134 31 1 (pc' := (if (cn (m_alen (t + 1))) ≤ x4 then 69 else 61)) (ls' := [some (.ref t), none, none, some (.int x3), some (.int x4), some (.int y0)]) (st' := []) (h1 := (SH, s)) rfl (Rn_if (fun h5 => ?_) (fun h5 => ?_))
      · replace hJ := m_ifp h5 hJ
        rw [← Option.some.inj hJ] at hC
        have hC : r = (none, (SH, s)) := hC
        subst hC
        exact Rn_ret srt134 37 rfl rfl rfl
      · replace hJ := m_ifn h5 hJ
        refine Rn_sq srt134 32 1 (pc' := 62) (ls' := [some (.ref t), none, none, some (.int x3), some (.int x4), some (.int y0)]) (st' := [(.ref t)]) (h1 := (SH, s)) rfl ?_
        refine Rn_ev srt134 33 rfl rfl rfl (op_gfT2 h_t) ?_
        refine Rn_sq srt134 34 2 (pc' := 68) (ls' := [some (.ref t), none, none, some (.int x3), some (.int x4), some (.int y0)]) (st' := [(.int x3), (.int x4), (.ref (t + 1))]) (h1 := (SH, s)) rfl ?_
        obtain ⟨h6, hJ⟩ := m_gn hJ
        extract_lets +onlyGivenNames s7 at hJ
        refine Rn_ev srt134 36 rfl rfl rfl (op_ias h_t.2 h6 (k := x4.toNatClampNeg) rfl) ?_
        rw [← Option.some.inj hJ] at hC
        have hC : r = (none, (SH, s7)) := hC
        subst hC
        exact Rn_ret srt134 37 rfl rfl rfl
def F_X10_put_38 (t : Nat) (x3 : Int32) (x4 : Int32) (s : mG) : Option (mG) :=
  F_X10_put_39 t x3 x4 (ci 0) s
set_option maxRecDepth 4000 in
theorem k_X10_put_38 {N : Nat} {xs : Nat → Int32} (t : Nat) (d : Nat) (h_t : isT t) {r : Option Value × mH} {s : mG} {x3 : Int32} {x4 : Int32} {τ : (mG)} (hJ : F_X10_put_38 t x3 x4 s = some τ) (hC : (fun τ => r = (none, (SH, τ))) τ) : Rn N xs (d + 0) me134 38 [some (.ref t), none, none, some (.int x3), some (.int x4), none] [] (SH, s) r := by
  unfold F_X10_put_38 at hJ
  refine Rn_sq srt134 21 1 (pc' := 39) (ls' := [some (.ref t), none, none, some (.int x3), some (.int x4), none]) (st' := [(.int (ci 0))]) (h1 := (SH, s)) rfl ?_
  exact (k_X10_put_39 t d h_t hJ hC)
def F_X10_put (t : Nat) (a1 : Int32) (a2 : Int32) (a3 : Int32) (s : mG) : Option (mG) :=
  let v1 : Int32 := ((a1 * (s.1 t 1)) + a2)
  if a1 < 0 then
    F_X10_put_38 t a3 v1 s
  else
    if (s.1 t 3) ≤ a1 then
      F_X10_put_38 t a3 v1 s
    else
      if a2 < 0 then
        F_X10_put_38 t a3 v1 s
      else
        if (s.1 t 1) ≤ a2 then
          F_X10_put_38 t a3 v1 s
        else
          F_X10_put_39 t a3 v1 (ci 1) s
set_option maxRecDepth 4000 in
theorem k_X10_put_r {N : Nat} {xs : Nat → Int32} (t : Nat) (d : Nat) (h_t : isT t) {r : Option Value × mH} {s : mG} {a1 : Int32} {a2 : Int32} {a3 : Int32} {τ : (mG)} (hJ : F_X10_put t a1 a2 a3 s = some τ) (hC : (fun τ => r = (none, (SH, τ))) τ) : Rn N xs (d + 0) me134 0 [some (.ref t), some (.int a1), some (.int a2), some (.int a3), none, none] [] (SH, s) r := by
  unfold F_X10_put at hJ
  refine Rn_sq srt134 0 2 (pc' := 2) (ls' := [some (.ref t), some (.int a1), some (.int a2), some (.int a3), none, none]) (st' := [(.ref t), (.int a1)]) (h1 := (SH, s)) rfl ?_
  refine Rn_ev srt134 2 rfl rfl rfl (op_gfT1 h_t) ?_
  extract_lets +onlyGivenNames v1 at hJ
  refine Rn_sq srt134 3 6 (pc' := (if a1 < 0 then 38 else 14)) (ls' := [some (.ref t), some (.int a1), some (.int a2), some (.int a3), some (.int v1), none]) (st' := []) (h1 := (SH, s)) rfl (Rn_if (fun h2 => ?_) (fun h2 => ?_))
  · replace hJ := m_ifp h2 hJ
    exact Rn_weaken (a := [some (.ref t), none, none, some (.int a3), some (.int v1), none]) (b := [some (.ref t), some (.int a1), some (.int a2), some (.int a3), some (.int v1), none]) (And.intro rfl (And.intro rfl (And.intro rfl trivial))) rfl (k_X10_put_38 t d h_t hJ hC)
  · replace hJ := m_ifn h2 hJ
    refine Rn_sq srt134 9 2 (pc' := 16) (ls' := [some (.ref t), some (.int a1), some (.int a2), some (.int a3), some (.int v1), none]) (st' := [(.ref t), (.int a1)]) (h1 := (SH, s)) rfl ?_
    refine Rn_ev srt134 11 rfl rfl rfl (op_gfT3 h_t) ?_
    refine Rn_sq srt134 12 1 (pc' := (if (s.1 t 3) ≤ a1 then 38 else 22)) (ls' := [some (.ref t), some (.int a1), some (.int a2), some (.int a3), some (.int v1), none]) (st' := []) (h1 := (SH, s)) rfl (Rn_if (fun h8 => ?_) (fun h8 => ?_))
    · replace hJ := m_ifp h8 hJ
      exact Rn_weaken (a := [some (.ref t), none, none, some (.int a3), some (.int v1), none]) (b := [some (.ref t), some (.int a1), some (.int a2), some (.int a3), some (.int v1), none]) (And.intro rfl (And.intro rfl (And.intro rfl trivial))) rfl (k_X10_put_38 t d h_t hJ hC)
    · replace hJ := m_ifn h8 hJ
      refine Rn_sq srt134 13 2 (pc' := (if a2 < 0 then 38 else 26)) (ls' := [some (.ref t), some (.int a1), some (.int a2), some (.int a3), some (.int v1), none]) (st' := []) (h1 := (SH, s)) rfl (Rn_if (fun h9 => ?_) (fun h9 => ?_))
      · replace hJ := m_ifp h9 hJ
        exact Rn_weaken (a := [some (.ref t), none, none, some (.int a3), some (.int v1), none]) (b := [some (.ref t), some (.int a1), some (.int a2), some (.int a3), some (.int v1), none]) (And.intro rfl (And.intro rfl (And.intro rfl trivial))) rfl (k_X10_put_38 t d h_t hJ hC)
      · replace hJ := m_ifn h9 hJ
        refine Rn_sq srt134 15 2 (pc' := 28) (ls' := [some (.ref t), some (.int a1), some (.int a2), some (.int a3), some (.int v1), none]) (st' := [(.ref t), (.int a2)]) (h1 := (SH, s)) rfl ?_
        refine Rn_ev srt134 17 rfl rfl rfl (op_gfT1 h_t) ?_
        refine Rn_sq srt134 18 1 (pc' := (if (s.1 t 1) ≤ a2 then 38 else 34)) (ls' := [some (.ref t), some (.int a1), some (.int a2), some (.int a3), some (.int v1), none]) (st' := []) (h1 := (SH, s)) rfl (Rn_if (fun h10 => ?_) (fun h10 => ?_))
        · replace hJ := m_ifp h10 hJ
          exact Rn_weaken (a := [some (.ref t), none, none, some (.int a3), some (.int v1), none]) (b := [some (.ref t), some (.int a1), some (.int a2), some (.int a3), some (.int v1), none]) (And.intro rfl (And.intro rfl (And.intro rfl trivial))) rfl (k_X10_put_38 t d h_t hJ hC)
        · replace hJ := m_ifn h10 hJ
          refine Rn_sq srt134 19 2 (pc' := 39) (ls' := [some (.ref t), some (.int a1), some (.int a2), some (.int a3), some (.int v1), none]) (st' := [(.int (ci 1))]) (h1 := (SH, s)) rfl ?_
          exact Rn_weaken (a := [some (.ref t), none, none, some (.int a3), some (.int v1), none]) (b := [some (.ref t), some (.int a1), some (.int a2), some (.int a3), some (.int v1), none]) (And.intro rfl (And.intro rfl (And.intro rfl trivial))) rfl (k_X10_put_39 t d h_t hJ hC)
theorem k_X10_put {N : Nat} {xs : Nat → Int32} (t : Nat) (d : Nat) (h_t : isT t) {s : mG} {a1 : Int32} {a2 : Int32} {a3 : Int32} {τ : (mG)} (hJ : F_X10_put t a1 a2 a3 s = some τ) : Rn N xs (d + 0) me134 0 [some (.ref t), some (.int a1), some (.int a2), some (.int a3), none, none] [] (SH, s) (none, (SH, τ)) := k_X10_put_r t d h_t hJ rfl
/-! IsHeIn$Foresight.countGoings(I)V -/
theorem srt33 : m_srt mc33 = true := by decide +kernel
def C_X1_countGoings_7 (N : Nat) (xs : Nat → Int32) (d : Nat) (r : Option Value × mH) (C : (mG) → Prop) : ((Int32 × Int32 × Int32 × Int32 × mG) ⊕ (mG)) → Prop
  | .inl v => Rn N xs (d + 3) me33 7 [some (.ref 77), some (.int v.1), some (.int v.2.1), some (.int v.2.2.1), some (.int v.2.2.2.1), none, none] [] (SH, v.2.2.2.2) r
  | .inr a => C a
def F_X1_countGoings_92 (x1 : Int32) (x2 : Int32) (x3 : Int32) (x4 : Int32) (s : mG) : Option ((Int32 × Int32 × Int32 × Int32 × mG) ⊕ (mG)) :=
  some (Sum.inl (x1, x2, x3, (x4 + ci 1), s))
set_option maxRecDepth 4000 in
theorem k_X1_countGoings_92 {N : Nat} {xs : Nat → Int32} (d : Nat) {r : Option Value × mH} {s : mG} {x1 : Int32} {x2 : Int32} {x3 : Int32} {x4 : Int32} {τ : ((Int32 × Int32 × Int32 × Int32 × mG) ⊕ (mG))} (hJ : F_X1_countGoings_92 x1 x2 x3 x4 s = some τ) (hC : (C_X1_countGoings_7 N xs d r (fun τ => r = (none, (SH, τ)))) τ) : Rn N xs (d + 3) me33 92 [some (.ref 77), some (.int x1), some (.int x2), some (.int x3), some (.int x4), none, none] [] (SH, s) r := by
  unfold F_X1_countGoings_92 at hJ
  refine Rn_sq srt33 50 2 (pc' := 7) (ls' := [some (.ref 77), some (.int x1), some (.int x2), some (.int x3), some (.int (x4 + ci 1)), none, none]) (st' := []) (h1 := (SH, s)) rfl ?_
  rw [← Option.some.inj hJ] at hC
  exact hC
def F_X1_countGoings_B7 (x1 : Int32) (x2 : Int32) (x3 : Int32) (x4 : Int32) (s : mG) : Option ((Int32 × Int32 × Int32 × Int32 × mG) ⊕ (mG)) :=
  if (s.1 2 3) ≤ x4 then
    b1 (F_X10_put 78 x1 (ci 0) x2 s) fun s3 =>
    b1 (F_X10_put 78 x1 (ci 1) x3 s3) fun s5 =>
    some (Sum.inr s5)
  else
    b1 (F_X2_isOut 1 s x4) fun v7 =>
    if v7 = 0 then
      b1 (F_X3_face x4 s) fun s10 =>
      b1 (F_X3_suppose (ci 3) x1 s10) fun s12 =>
      b2 (F_X3_tells (ci 0) s12) fun v15 s14 =>
      b2 (F_X3_tells (ci 4) s14) fun v18 s17 =>
      let v19 : Int32 := ((v15 * v18) / (c16 1000))
      F_X1_countGoings_92 x1 (x2 + v19) (x3 + (v15 - v19)) x4 s17
    else
      F_X1_countGoings_92 x1 x2 x3 x4 s
set_option maxRecDepth 4000 in
theorem k_X1_countGoings_B7 {N : Nat} {xs : Nat → Int32} (d : Nat) {r : Option Value × mH} {s : mG} {x1 : Int32} {x2 : Int32} {x3 : Int32} {x4 : Int32} {τ : ((Int32 × Int32 × Int32 × Int32 × mG) ⊕ (mG))} (hJ : F_X1_countGoings_B7 x1 x2 x3 x4 s = some τ) (hC : (C_X1_countGoings_7 N xs d r (fun τ => r = (none, (SH, τ)))) τ) : Rn N xs (d + 3) me33 7 [some (.ref 77), some (.int x1), some (.int x2), some (.int x3), some (.int x4), none, none] [] (SH, s) r := by
  unfold F_X1_countGoings_B7 at hJ
  refine Rn_sq srt33 6 6 (pc' := (if (s.1 2 3) ≤ x4 then 98 else 22)) (ls' := [some (.ref 77), some (.int x1), some (.int x2), some (.int x3), some (.int x4), none, none]) (st' := []) (h1 := (SH, s)) rfl (Rn_if (fun h1 => ?_) (fun h1 => ?_))
  · replace hJ := m_ifp h1 hJ
    refine Rn_sq srt33 52 5 (pc' := 105) (ls' := [some (.ref 77), some (.int x1), some (.int x2), some (.int x3), some (.int x4), none, none]) (st' := [(.int x2), (.int (ci 0)), (.int x1), (.ref 78)]) (h1 := (SH, s)) rfl ?_
    obtain ⟨s3, h2, hJ⟩ := m_b1 hJ
    refine Rn_call srt33 57 rfl rfl rfl ⟨Nat.le_of_ble_eq_true rfl, Nat.le_of_ble_eq_true rfl, rfl, Nat.le_of_ble_eq_true rfl⟩ (k_X10_put 78 (d + 2) isT_78 h2) (show Rn N xs (d + 3) me33 108 [some (.ref 77), some (.int x1), some (.int x2), some (.int x3), some (.int x4), none, none] [] (SH, s3) r from ?_)
    refine Rn_sq srt33 58 5 (pc' := 115) (ls' := [some (.ref 77), some (.int x1), some (.int x2), some (.int x3), some (.int x4), none, none]) (st' := [(.int x3), (.int (ci 1)), (.int x1), (.ref 78)]) (h1 := (SH, s3)) rfl ?_
    obtain ⟨s5, h4, hJ⟩ := m_b1 hJ
    refine Rn_call srt33 63 rfl rfl rfl ⟨Nat.le_of_ble_eq_true rfl, Nat.le_of_ble_eq_true rfl, rfl, Nat.le_of_ble_eq_true rfl⟩ (k_X10_put 78 (d + 2) isT_78 h4) (show Rn N xs (d + 3) me33 118 [some (.ref 77), some (.int x1), some (.int x2), some (.int x3), some (.int x4), none, none] [] (SH, s5) r from ?_)
    rw [← Option.some.inj hJ] at hC
    have hC : r = (none, (SH, s5)) := hC
    subst hC
    exact Rn_ret srt33 64 rfl rfl rfl
  · replace hJ := m_ifn h1 hJ
    refine Rn_sq srt33 12 3 (pc' := 28) (ls' := [some (.ref 77), some (.int x1), some (.int x2), some (.int x3), some (.int x4), none, none]) (st' := [(.int x4), (.ref 1)]) (h1 := (SH, s)) rfl ?_
    obtain ⟨v7, h6, hJ⟩ := m_b1 hJ
    refine Rn_call srt33 15 rfl rfl rfl ⟨Nat.le_of_ble_eq_true rfl, Nat.le_of_ble_eq_true rfl, rfl, Nat.le_of_ble_eq_true rfl⟩ (k_X2_isOut 1 (d + 1) isH_1 h6) (show Rn N xs (d + 3) me33 31 [some (.ref 77), some (.int x1), some (.int x2), some (.int x3), some (.int x4), none, none] [(.int v7)] (SH, s) r from ?_)
    refine Rn_sq srt33 16 1 (pc' := (if v7 = 0 then 34 else 92)) (ls' := [some (.ref 77), some (.int x1), some (.int x2), some (.int x3), some (.int x4), none, none]) (st' := []) (h1 := (SH, s)) rfl (Rn_if (fun h8 => ?_) (fun h8 => ?_))
    · replace hJ := m_ifp h8 hJ
      refine Rn_sq srt33 17 3 (pc' := 40) (ls' := [some (.ref 77), some (.int x1), some (.int x2), some (.int x3), some (.int x4), none, none]) (st' := [(.int x4), (.ref 68)]) (h1 := (SH, s)) rfl ?_
      obtain ⟨s10, h9, hJ⟩ := m_b1 hJ
      refine Rn_call srt33 20 rfl rfl rfl ⟨Nat.le_of_ble_eq_true rfl, Nat.le_of_ble_eq_true rfl, rfl, Nat.le_of_ble_eq_true rfl⟩ (k_X3_face (d) h9) (show Rn N xs (d + 3) me33 43 [some (.ref 77), some (.int x1), some (.int x2), some (.int x3), some (.int x4), none, none] [] (SH, s10) r from ?_)
      refine Rn_sq srt33 21 4 (pc' := 49) (ls' := [some (.ref 77), some (.int x1), some (.int x2), some (.int x3), some (.int x4), none, none]) (st' := [(.int x1), (.int (ci 3)), (.ref 68)]) (h1 := (SH, s10)) rfl ?_
      obtain ⟨s12, h11, hJ⟩ := m_b1 hJ
      refine Rn_call srt33 25 rfl rfl rfl ⟨Nat.le_of_ble_eq_true rfl, Nat.le_of_ble_eq_true rfl, rfl, Nat.le_of_ble_eq_true rfl⟩ (k_X3_suppose (d + 1) h11) (show Rn N xs (d + 3) me33 52 [some (.ref 77), some (.int x1), some (.int x2), some (.int x3), some (.int x4), none, none] [] (SH, s12) r from ?_)
      refine Rn_sq srt33 26 3 (pc' := 57) (ls' := [some (.ref 77), some (.int x1), some (.int x2), some (.int x3), some (.int x4), none, none]) (st' := [(.int (ci 0)), (.ref 68)]) (h1 := (SH, s12)) rfl ?_
      obtain ⟨v15, s14, h13, hJ⟩ := m_b2 hJ
      refine Rn_call srt33 29 rfl rfl rfl ⟨Nat.le_of_ble_eq_true rfl, Nat.le_of_ble_eq_true rfl, rfl, Nat.le_of_ble_eq_true rfl⟩ (k_X3_tells (d) h13) (show Rn N xs (d + 3) me33 60 [some (.ref 77), some (.int x1), some (.int x2), some (.int x3), some (.int x4), none, none] [(.int v15)] (SH, s14) r from ?_)
      refine Rn_sq srt33 30 5 (pc' := 69) (ls' := [some (.ref 77), some (.int x1), some (.int x2), some (.int x3), some (.int x4), some (.int v15), none]) (st' := [(.int (ci 4)), (.ref 68), (.int v15)]) (h1 := (SH, s14)) rfl ?_
      obtain ⟨v18, s17, h16, hJ⟩ := m_b2 hJ
      refine Rn_call srt33 35 rfl rfl rfl ⟨Nat.le_of_ble_eq_true rfl, Nat.le_of_ble_eq_true rfl, rfl, Nat.le_of_ble_eq_true rfl⟩ (k_X3_tells (d) h16) (show Rn N xs (d + 3) me33 72 [some (.ref 77), some (.int x1), some (.int x2), some (.int x3), some (.int x4), some (.int v15), none] [(.int v18), (.int v15)] (SH, s17) r from ?_)
      refine Rn_sq srt33 36 2 (pc' := 76) (ls' := [some (.ref 77), some (.int x1), some (.int x2), some (.int x3), some (.int x4), some (.int v15), none]) (st' := [(.int (c16 1000)), (.int (v15 * v18))]) (h1 := (SH, s17)) rfl ?_
      refine Rn_ev srt33 38 rfl rfl rfl (op_idiv (by decide)) ?_
      extract_lets +onlyGivenNames v19 at hJ
      refine Rn_sq srt33 39 11 (pc' := 92) (ls' := [some (.ref 77), some (.int x1), some (.int (x2 + v19)), some (.int (x3 + (v15 - v19))), some (.int x4), some (.int v15), some (.int v19)]) (st' := []) (h1 := (SH, s17)) rfl ?_
      exact Rn_weaken (a := [some (.ref 77), some (.int x1), some (.int (x2 + v19)), some (.int (x3 + (v15 - v19))), some (.int x4), none, none]) (b := [some (.ref 77), some (.int x1), some (.int (x2 + v19)), some (.int (x3 + (v15 - v19))), some (.int x4), some (.int v15), some (.int v19)]) (And.intro rfl (And.intro rfl (And.intro rfl (And.intro rfl (And.intro rfl trivial))))) rfl (k_X1_countGoings_92 d hJ hC)
    · replace hJ := m_ifn h8 hJ
      exact (k_X1_countGoings_92 d hJ hC)
def F_X1_countGoings_L7 (x1 : Int32) (x2 : Int32) (x3 : Int32) (x4 : Int32) (s : mG) : Option (mG) := whl (fun (v : (Int32 × Int32 × Int32 × Int32 × mG)) => F_X1_countGoings_B7 v.1 v.2.1 v.2.2.1 v.2.2.2.1 v.2.2.2.2) (x1, x2, x3, x4, s)
theorem k_X1_countGoings_L7 {N : Nat} {xs : Nat → Int32} (d : Nat) {r : Option Value × mH} {s : mG} {x1 : Int32} {x2 : Int32} {x3 : Int32} {x4 : Int32} {τ : (mG)} (hJ : F_X1_countGoings_L7 x1 x2 x3 x4 s = some τ) (hC : (fun τ => r = (none, (SH, τ))) τ) : Rn N xs (d + 3) me33 7 [some (.ref 77), some (.int x1), some (.int x2), some (.int x3), some (.int x4), none, none] [] (SH, s) r :=
  whl_link (P := fun (v : (Int32 × Int32 × Int32 × Int32 × mG)) => Rn N xs (d + 3) me33 7 [some (.ref 77), some (.int v.1), some (.int v.2.1), some (.int v.2.2.1), some (.int v.2.2.2.1), none, none] [] (SH, v.2.2.2.2) r) (C := (C_X1_countGoings_7 N xs d r (fun τ => r = (none, (SH, τ))))) (fun v τ h1 h2 => k_X1_countGoings_B7 d h1 h2) (fun _ h => h) (fun _ h => h) _ _ hJ hC
def F_X1_countGoings (a1 : Int32) (s : mG) : Option (mG) :=
  F_X1_countGoings_L7 a1 (ci 0) (ci 0) (ci 0) s
set_option maxRecDepth 4000 in
theorem k_X1_countGoings_r {N : Nat} {xs : Nat → Int32} (d : Nat) {r : Option Value × mH} {s : mG} {a1 : Int32} {τ : (mG)} (hJ : F_X1_countGoings a1 s = some τ) (hC : (fun τ => r = (none, (SH, τ))) τ) : Rn N xs (d + 3) me33 0 [some (.ref 77), some (.int a1), none, none, none, none, none] [] (SH, s) r := by
  unfold F_X1_countGoings at hJ
  refine Rn_sq srt33 0 6 (pc' := 7) (ls' := [some (.ref 77), some (.int a1), some (.int (ci 0)), some (.int (ci 0)), some (.int (ci 0)), none, none]) (st' := []) (h1 := (SH, s)) rfl ?_
  exact (k_X1_countGoings_L7 d hJ hC)
theorem k_X1_countGoings {N : Nat} {xs : Nat → Int32} (d : Nat) {s : mG} {a1 : Int32} {τ : (mG)} (hJ : F_X1_countGoings a1 s = some τ) : Rn N xs (d + 3) me33 0 [some (.ref 77), some (.int a1), none, none, none, none, none] [] (SH, s) (none, (SH, τ)) := k_X1_countGoings_r d hJ rfl
/-! IsHeIn$Foresight.restFrom(IIII)I -/
theorem srt34 : m_srt mc34 = true := by decide +kernel
def F_X1_restFrom_30 (s : mG) (y0 : Int32) (y1 : Int32) : Option (Int32) :=
  some (y0 - y1)
set_option maxRecDepth 4000 in
theorem k_X1_restFrom_30 {N : Nat} {xs : Nat → Int32} (d : Nat) {r : Option Value × mH} {s : mG} {y0 : Int32} {y1 : Int32} {τ : (Int32)} (hJ : F_X1_restFrom_30 s y0 y1 = some τ) (hC : (fun τ => r = (some (.int τ), (SH, s))) τ) : Rn N xs (d + 1) me34 30 [none, none, none, none, none] [(.int y1), (.int y0)] (SH, s) r := by
  unfold F_X1_restFrom_30 at hJ
  refine Rn_sq srt34 16 1 (pc' := 31) (ls' := [none, none, none, none, none]) (st' := [(.int (y0 - y1))]) (h1 := (SH, s)) rfl ?_
  rw [← Option.some.inj hJ] at hC
  have hC : r = (some (.int (y0 - y1)), (SH, s)) := hC
  subst hC
  exact Rn_ret srt34 17 rfl rfl rfl
def F_X1_restFrom (s : mG) (a1 : Int32) (a2 : Int32) (a3 : Int32) (a4 : Int32) : Option (Int32) :=
  if a1 < (c8 24) then
    b1 (F_X10_at 80 s a1 a3) fun v3 =>
    if a2 = a3 then
      F_X1_restFrom_30 s v3 (ci 0)
    else
      F_X1_restFrom_30 s v3 a4
  else
    some (ci 0)
set_option maxRecDepth 4000 in
theorem k_X1_restFrom_r {N : Nat} {xs : Nat → Int32} (d : Nat) {r : Option Value × mH} {s : mG} {a1 : Int32} {a2 : Int32} {a3 : Int32} {a4 : Int32} {τ : (Int32)} (hJ : F_X1_restFrom s a1 a2 a3 a4 = some τ) (hC : (fun τ => r = (some (.int τ), (SH, s))) τ) : Rn N xs (d + 1) me34 0 [some (.ref 77), some (.int a1), some (.int a2), some (.int a3), some (.int a4)] [] (SH, s) r := by
  unfold F_X1_restFrom at hJ
  refine Rn_sq srt34 0 3 (pc' := (if a1 < (c8 24) then 10 else 6)) (ls' := [some (.ref 77), some (.int a1), some (.int a2), some (.int a3), some (.int a4)]) (st' := []) (h1 := (SH, s)) rfl (Rn_if (fun h1 => ?_) (fun h1 => ?_))
  · replace hJ := m_ifp h1 hJ
    refine Rn_sq srt34 5 4 (pc' := 16) (ls' := [some (.ref 77), some (.int a1), some (.int a2), some (.int a3), some (.int a4)]) (st' := [(.int a3), (.int a1), (.ref 80)]) (h1 := (SH, s)) rfl ?_
    obtain ⟨v3, h2, hJ⟩ := m_b1 hJ
    refine Rn_call srt34 9 rfl rfl rfl ⟨Nat.le_of_ble_eq_true rfl, Nat.le_of_ble_eq_true rfl, rfl, Nat.le_of_ble_eq_true rfl⟩ (k_X10_at 80 (d) isT_80 h2) (show Rn N xs (d + 1) me34 19 [some (.ref 77), some (.int a1), some (.int a2), some (.int a3), some (.int a4)] [(.int v3)] (SH, s) r from ?_)
    refine Rn_sq srt34 10 3 (pc' := (if a2 = a3 then 24 else 28)) (ls' := [some (.ref 77), some (.int a1), some (.int a2), some (.int a3), some (.int a4)]) (st' := [(.int v3)]) (h1 := (SH, s)) rfl (Rn_if (fun h4 => ?_) (fun h4 => ?_))
    · replace hJ := m_ifp h4 hJ
      refine Rn_sq srt34 13 2 (pc' := 30) (ls' := [some (.ref 77), some (.int a1), some (.int a2), some (.int a3), some (.int a4)]) (st' := [(.int (ci 0)), (.int v3)]) (h1 := (SH, s)) rfl ?_
      exact Rn_weaken (a := [none, none, none, none, none]) (b := [some (.ref 77), some (.int a1), some (.int a2), some (.int a3), some (.int a4)]) trivial rfl (k_X1_restFrom_30 d hJ hC)
    · replace hJ := m_ifn h4 hJ
      refine Rn_sq srt34 15 1 (pc' := 30) (ls' := [some (.ref 77), some (.int a1), some (.int a2), some (.int a3), some (.int a4)]) (st' := [(.int a4), (.int v3)]) (h1 := (SH, s)) rfl ?_
      exact Rn_weaken (a := [none, none, none, none, none]) (b := [some (.ref 77), some (.int a1), some (.int a2), some (.int a3), some (.int a4)]) trivial rfl (k_X1_restFrom_30 d hJ hC)
  · replace hJ := m_ifn h1 hJ
    refine Rn_sq srt34 3 2 (pc' := 31) (ls' := [some (.ref 77), some (.int a1), some (.int a2), some (.int a3), some (.int a4)]) (st' := [(.int (ci 0))]) (h1 := (SH, s)) rfl ?_
    rw [← Option.some.inj hJ] at hC
    have hC : r = (some (.int (ci 0)), (SH, s)) := hC
    subst hC
    exact Rn_ret srt34 17 rfl rfl rfl
theorem k_X1_restFrom {N : Nat} {xs : Nat → Int32} (d : Nat) {s : mG} {a1 : Int32} {a2 : Int32} {a3 : Int32} {a4 : Int32} {τ : (Int32)} (hJ : F_X1_restFrom s a1 a2 a3 a4 = some τ) : Rn N xs (d + 1) me34 0 [some (.ref 77), some (.int a1), some (.int a2), some (.int a3), some (.int a4)] [] (SH, s) (some (.int τ), (SH, s)) := k_X1_restFrom_r d hJ rfl
/-! IsHeIn$Table.isFull()Z -/
theorem srt132 : m_srt mc132 = true := by decide +kernel
def F_X10_isFull (t : Nat) (s : mG) : Option (Int32) :=
  if (s.1 t 3) < (s.1 t 0) then
    some (ci 0)
  else
    some (ci 1)
set_option maxRecDepth 4000 in
theorem k_X10_isFull_r {N : Nat} {xs : Nat → Int32} (t : Nat) (d : Nat) (h_t : isT t) {r : Option Value × mH} {s : mG} {τ : (Int32)} (hJ : F_X10_isFull t s = some τ) (hC : (fun τ => r = (some (.int τ), (SH, s))) τ) : Rn N xs (d + 0) me132 0 [some (.ref t)] [] (SH, s) r := by
  unfold F_X10_isFull at hJ
  refine Rn_sq srt132 0 1 (pc' := 1) (ls' := [some (.ref t)]) (st' := [(.ref t)]) (h1 := (SH, s)) rfl ?_
  refine Rn_ev srt132 1 rfl rfl rfl (op_gfT3 h_t) ?_
  refine Rn_sq srt132 2 1 (pc' := 5) (ls' := [some (.ref t)]) (st' := [(.ref t), (.int (s.1 t 3))]) (h1 := (SH, s)) rfl ?_
  refine Rn_ev srt132 3 rfl rfl rfl (op_gfT0 h_t) ?_
  refine Rn_sq srt132 4 1 (pc' := (if (s.1 t 3) < (s.1 t 0) then 15 else 11)) (ls' := [some (.ref t)]) (st' := []) (h1 := (SH, s)) rfl (Rn_if (fun h1 => ?_) (fun h1 => ?_))
  · replace hJ := m_ifp h1 hJ
    refine Rn_sq srt132 7 1 (pc' := 16) (ls' := [some (.ref t)]) (st' := [(.int (ci 0))]) (h1 := (SH, s)) rfl ?_
    rw [← Option.some.inj hJ] at hC
    have hC : r = (some (.int (ci 0)), (SH, s)) := hC
    subst hC
    exact Rn_ret srt132 8 rfl rfl (m_ret_b rfl (by decide))
  · replace hJ := m_ifn h1 hJ
    refine Rn_sq srt132 5 2 (pc' := 16) (ls' := [some (.ref t)]) (st' := [(.int (ci 1))]) (h1 := (SH, s)) rfl ?_
    rw [← Option.some.inj hJ] at hC
    have hC : r = (some (.int (ci 1)), (SH, s)) := hC
    subst hC
    exact Rn_ret srt132 8 rfl rfl (m_ret_b rfl (by decide))
theorem k_X10_isFull {N : Nat} {xs : Nat → Int32} (t : Nat) (d : Nat) (h_t : isT t) {s : mG} {τ : (Int32)} (hJ : F_X10_isFull t s = some τ) : Rn N xs (d + 0) me132 0 [some (.ref t)] [] (SH, s) (some (.int τ), (SH, s)) := k_X10_isFull_r t d h_t hJ rfl
/-! IsHeIn$Table.add()I -/
theorem srt136 : m_srt mc136 = true := by decide +kernel
def F_X10_add (t : Nat) (s : mG) : Option (Int32 × mG) :=
  b1 (F_X10_isFull t s) fun v2 =>
  if v2 = 0 then
    let s4 : mG := (mu s.1 t 3 ((s.1 t 3) + (ci 1)), s.2)
    some (((s4.1 t 3) - (ci 1)), s4)
  else
    some ((ci (-1)), s)
set_option maxRecDepth 4000 in
theorem k_X10_add_r {N : Nat} {xs : Nat → Int32} (t : Nat) (d : Nat) (h_t : isT t) {r : Option Value × mH} {s : mG} {τ : (Int32 × mG)} (hJ : F_X10_add t s = some τ) (hC : (fun τ => r = (some (.int τ.1), (SH, τ.2))) τ) : Rn N xs (d + 1) me136 0 [some (.ref t)] [] (SH, s) r := by
  unfold F_X10_add at hJ
  refine Rn_sq srt136 0 1 (pc' := 1) (ls' := [some (.ref t)]) (st' := [(.ref t)]) (h1 := (SH, s)) rfl ?_
  obtain ⟨v2, h1, hJ⟩ := m_b1 hJ
  refine Rn_call srt136 1 rfl rfl rfl ⟨Nat.le_of_ble_eq_true rfl, Nat.le_of_ble_eq_true rfl, (recv_T h_t), Nat.le_of_ble_eq_true rfl⟩ (k_X10_isFull t (d) h_t h1) (show Rn N xs (d + 1) me136 4 [some (.ref t)] [(.int v2)] (SH, s) r from ?_)
  refine Rn_sq srt136 2 1 (pc' := (if v2 = 0 then 9 else 7)) (ls' := [some (.ref t)]) (st' := []) (h1 := (SH, s)) rfl (Rn_if (fun h3 => ?_) (fun h3 => ?_))
  · replace hJ := m_ifp h3 hJ
    refine Rn_sq srt136 5 2 (pc' := 11) (ls' := [some (.ref t)]) (st' := [(.ref t), (.ref t)]) (h1 := (SH, s)) rfl ?_
    refine Rn_ev srt136 7 rfl rfl rfl (op_gfT3 h_t) ?_
    refine Rn_sq srt136 8 2 (pc' := 16) (ls' := [some (.ref t)]) (st' := [(.int ((s.1 t 3) + (ci 1))), (.ref t)]) (h1 := (SH, s)) rfl ?_
    extract_lets +onlyGivenNames s4 at hJ
    refine Rn_ev srt136 10 rfl rfl rfl (op_pfT3 h_t) ?_
    refine Rn_sq srt136 11 1 (pc' := 20) (ls' := [some (.ref t)]) (st' := [(.ref t)]) (h1 := (SH, s4)) rfl ?_
    refine Rn_ev srt136 12 rfl rfl rfl (op_gfT3 h_t) ?_
    refine Rn_sq srt136 13 2 (pc' := 25) (ls' := [some (.ref t)]) (st' := [(.int ((s4.1 t 3) - (ci 1)))]) (h1 := (SH, s4)) rfl ?_
    rw [← Option.some.inj hJ] at hC
    have hC : r = (some (.int ((s4.1 t 3) - (ci 1))), (SH, s4)) := hC
    subst hC
    exact Rn_ret srt136 15 rfl rfl rfl
  · replace hJ := m_ifn h3 hJ
    refine Rn_sq srt136 3 1 (pc' := 8) (ls' := [some (.ref t)]) (st' := [(.int (ci (-1)))]) (h1 := (SH, s)) rfl ?_
    rw [← Option.some.inj hJ] at hC
    have hC : r = (some (.int (ci (-1))), (SH, s)) := hC
    subst hC
    exact Rn_ret srt136 4 rfl rfl rfl
theorem k_X10_add {N : Nat} {xs : Nat → Int32} (t : Nat) (d : Nat) (h_t : isT t) {s : mG} {τ : (Int32 × mG)} (hJ : F_X10_add t s = some τ) : Rn N xs (d + 1) me136 0 [some (.ref t)] [] (SH, s) (some (.int τ.1), (SH, τ.2)) := k_X10_add_r t d h_t hJ rfl
/-! IsHeIn$Table.clear()V -/
theorem srt137 : m_srt mc137 = true := by decide +kernel
def F_X10_clear (t : Nat) (s : mG) : Option (mG) :=
  let s1 : mG := (mu s.1 t 3 (ci 0), s.2)
  some s1
set_option maxRecDepth 4000 in
theorem k_X10_clear_r {N : Nat} {xs : Nat → Int32} (t : Nat) (d : Nat) (h_t : isT t) {r : Option Value × mH} {s : mG} {τ : (mG)} (hJ : F_X10_clear t s = some τ) (hC : (fun τ => r = (none, (SH, τ))) τ) : Rn N xs (d + 0) me137 0 [some (.ref t)] [] (SH, s) r := by
  unfold F_X10_clear at hJ
  refine Rn_sq srt137 0 2 (pc' := 2) (ls' := [some (.ref t)]) (st' := [(.int (ci 0)), (.ref t)]) (h1 := (SH, s)) rfl ?_
  extract_lets +onlyGivenNames s1 at hJ
  refine Rn_ev srt137 2 rfl rfl rfl (op_pfT3 h_t) ?_
  rw [← Option.some.inj hJ] at hC
  have hC : r = (none, (SH, s1)) := hC
  subst hC
  exact Rn_ret srt137 3 rfl rfl rfl
theorem k_X10_clear {N : Nat} {xs : Nat → Int32} (t : Nat) (d : Nat) (h_t : isT t) {s : mG} {τ : (mG)} (hJ : F_X10_clear t s = some τ) : Rn N xs (d + 0) me137 0 [some (.ref t)] [] (SH, s) (none, (SH, τ)) := k_X10_clear_r t d h_t hJ rfl
/-! IsHeIn$Foresight.plan(I)V -/
theorem srt32 : m_srt mc32 = true := by decide +kernel
def C_X1_plan_16 (N : Nat) (xs : Nat → Int32) (d : Nat) (r : Option Value × mH) (C : (mG) → Prop) : ((Int32 × Int32 × mG) ⊕ (mG)) → Prop
  | .inl v => Rn N xs (d + 4) me32 16 [some (.ref 77), some (.int v.1), some (.int v.2.1), none, none] [] (SH, v.2.2) r
  | .inr a => C a
def C_X1_plan_52 (N : Nat) (xs : Nat → Int32) (d : Nat) (r : Option Value × mH) (C : (mG) → Prop) : ((Int32 × Int32 × mG) ⊕ (mG)) → Prop
  | .inl v => Rn N xs (d + 4) me32 52 [some (.ref 77), some (.int v.1), some (.int v.2.1), none, none] [] (SH, v.2.2) r
  | .inr a => C a
def C_X1_plan_58 (N : Nat) (xs : Nat → Int32) (d : Nat) (r : Option Value × mH) (C : ((Int32 × Int32 × mG) ⊕ (mG)) → Prop) : ((Int32 × Int32 × Int32 × mG) ⊕ ((Int32 × Int32 × mG) ⊕ (mG))) → Prop
  | .inl v => Rn N xs (d + 4) me32 58 [some (.ref 77), some (.int v.1), some (.int v.2.1), some (.int v.2.2.1), none] [] (SH, v.2.2.2) r
  | .inr a => C a
def F_X1_plan_B58 (x1 : Int32) (x2 : Int32) (x3 : Int32) (s : mG) : Option ((Int32 × Int32 × Int32 × mG) ⊕ ((Int32 × Int32 × mG) ⊕ (mG))) :=
  if (ci 2) ≤ x3 then
    some (Sum.inr (Sum.inl (x1, (x2 + ci (-1)), s)))
  else
    b1 (F_X1_restFrom s (x2 + (ci 1)) x3 (ci 0) x1) fun v9 =>
    b1 (F_X1_restFrom s (x2 + (ci 1)) x3 (ci 1) x1) fun v11 =>
    b1 (F_X10_at 78 s x2 x3) fun v13 =>
    b1 (F_X10_put 80 x2 x3 (v13 + (imax v9 v11)) s) fun s15 =>
    some (Sum.inl (x1, x2, (x3 + ci 1), s15))
set_option maxRecDepth 4000 in
theorem k_X1_plan_B58 {N : Nat} {xs : Nat → Int32} (d : Nat) {r : Option Value × mH} {s : mG} {x1 : Int32} {x2 : Int32} {x3 : Int32} {τ : ((Int32 × Int32 × Int32 × mG) ⊕ ((Int32 × Int32 × mG) ⊕ (mG)))} (hJ : F_X1_plan_B58 x1 x2 x3 s = some τ) (hC : (C_X1_plan_58 N xs d r (C_X1_plan_52 N xs d r (fun τ => r = (none, (SH, τ))))) τ) : Rn N xs (d + 4) me32 58 [some (.ref 77), some (.int x1), some (.int x2), some (.int x3), none] [] (SH, s) r := by
  unfold F_X1_plan_B58 at hJ
  refine Rn_sq srt32 30 3 (pc' := (if (ci 2) ≤ x3 then 115 else 63)) (ls' := [some (.ref 77), some (.int x1), some (.int x2), some (.int x3), none]) (st' := []) (h1 := (SH, s)) rfl (Rn_if (fun h7 => ?_) (fun h7 => ?_))
  · replace hJ := m_ifp h7 hJ
    refine Rn_sq srt32 65 2 (pc' := 52) (ls' := [some (.ref 77), some (.int x1), some (.int (x2 + ci (-1))), some (.int x3), none]) (st' := []) (h1 := (SH, s)) rfl ?_
    rw [← Option.some.inj hJ] at hC
    exact Rn_weaken (a := [some (.ref 77), some (.int x1), some (.int (x2 + ci (-1))), none, none]) (b := [some (.ref 77), some (.int x1), some (.int (x2 + ci (-1))), some (.int x3), none]) (And.intro rfl (And.intro rfl (And.intro rfl trivial))) rfl hC
  · replace hJ := m_ifn h7 hJ
    refine Rn_sq srt32 33 7 (pc' := 70) (ls' := [some (.ref 77), some (.int x1), some (.int x2), some (.int x3), none]) (st' := [(.int x1), (.int (ci 0)), (.int x3), (.int (x2 + (ci 1))), (.ref 77)]) (h1 := (SH, s)) rfl ?_
    obtain ⟨v9, h8, hJ⟩ := m_b1 hJ
    refine Rn_call srt32 40 rfl rfl rfl ⟨Nat.le_of_ble_eq_true rfl, Nat.le_of_ble_eq_true rfl, rfl, Nat.le_of_ble_eq_true rfl⟩ (k_X1_restFrom (d + 2) h8) (show Rn N xs (d + 4) me32 73 [some (.ref 77), some (.int x1), some (.int x2), some (.int x3), none] [(.int v9)] (SH, s) r from ?_)
    refine Rn_sq srt32 41 7 (pc' := 80) (ls' := [some (.ref 77), some (.int x1), some (.int x2), some (.int x3), none]) (st' := [(.int x1), (.int (ci 1)), (.int x3), (.int (x2 + (ci 1))), (.ref 77), (.int v9)]) (h1 := (SH, s)) rfl ?_
    obtain ⟨v11, h10, hJ⟩ := m_b1 hJ
    refine Rn_call srt32 48 rfl rfl rfl ⟨Nat.le_of_ble_eq_true rfl, Nat.le_of_ble_eq_true rfl, rfl, Nat.le_of_ble_eq_true rfl⟩ (k_X1_restFrom (d + 2) h10) (show Rn N xs (d + 4) me32 83 [some (.ref 77), some (.int x1), some (.int x2), some (.int x3), none] [(.int v11), (.int v9)] (SH, s) r from ?_)
    refine Rn_sq srt32 49 10 (pc' := 100) (ls' := [some (.ref 77), some (.int x1), some (.int x2), some (.int x3), some (.int (imax v9 v11))]) (st' := [(.int x3), (.int x2), (.ref 78), (.int x3), (.int x2), (.ref 80)]) (h1 := (SH, s)) rfl ?_
    obtain ⟨v13, h12, hJ⟩ := m_b1 hJ
    refine Rn_call srt32 59 rfl rfl rfl ⟨Nat.le_of_ble_eq_true rfl, Nat.le_of_ble_eq_true rfl, rfl, Nat.le_of_ble_eq_true rfl⟩ (k_X10_at 78 (d + 3) isT_78 h12) (show Rn N xs (d + 4) me32 103 [some (.ref 77), some (.int x1), some (.int x2), some (.int x3), some (.int (imax v9 v11))] [(.int v13), (.int x3), (.int x2), (.ref 80)] (SH, s) r from ?_)
    refine Rn_sq srt32 60 2 (pc' := 106) (ls' := [some (.ref 77), some (.int x1), some (.int x2), some (.int x3), some (.int (imax v9 v11))]) (st' := [(.int (v13 + (imax v9 v11))), (.int x3), (.int x2), (.ref 80)]) (h1 := (SH, s)) rfl ?_
    obtain ⟨s15, h14, hJ⟩ := m_b1 hJ
    refine Rn_call srt32 62 rfl rfl rfl ⟨Nat.le_of_ble_eq_true rfl, Nat.le_of_ble_eq_true rfl, rfl, Nat.le_of_ble_eq_true rfl⟩ (k_X10_put 80 (d + 3) isT_80 h14) (show Rn N xs (d + 4) me32 109 [some (.ref 77), some (.int x1), some (.int x2), some (.int x3), some (.int (imax v9 v11))] [] (SH, s15) r from ?_)
    refine Rn_sq srt32 63 2 (pc' := 58) (ls' := [some (.ref 77), some (.int x1), some (.int x2), some (.int (x3 + ci 1)), some (.int (imax v9 v11))]) (st' := []) (h1 := (SH, s15)) rfl ?_
    rw [← Option.some.inj hJ] at hC
    exact Rn_weaken (a := [some (.ref 77), some (.int x1), some (.int x2), some (.int (x3 + ci 1)), none]) (b := [some (.ref 77), some (.int x1), some (.int x2), some (.int (x3 + ci 1)), some (.int (imax v9 v11))]) (And.intro rfl (And.intro rfl (And.intro rfl (And.intro rfl trivial)))) rfl hC
def F_X1_plan_L58 (x1 : Int32) (x2 : Int32) (x3 : Int32) (s : mG) : Option ((Int32 × Int32 × mG) ⊕ (mG)) := whl (fun (v : (Int32 × Int32 × Int32 × mG)) => F_X1_plan_B58 v.1 v.2.1 v.2.2.1 v.2.2.2) (x1, x2, x3, s)
theorem k_X1_plan_L58 {N : Nat} {xs : Nat → Int32} (d : Nat) {r : Option Value × mH} {s : mG} {x1 : Int32} {x2 : Int32} {x3 : Int32} {τ : ((Int32 × Int32 × mG) ⊕ (mG))} (hJ : F_X1_plan_L58 x1 x2 x3 s = some τ) (hC : (C_X1_plan_52 N xs d r (fun τ => r = (none, (SH, τ)))) τ) : Rn N xs (d + 4) me32 58 [some (.ref 77), some (.int x1), some (.int x2), some (.int x3), none] [] (SH, s) r :=
  whl_link (P := fun (v : (Int32 × Int32 × Int32 × mG)) => Rn N xs (d + 4) me32 58 [some (.ref 77), some (.int v.1), some (.int v.2.1), some (.int v.2.2.1), none] [] (SH, v.2.2.2) r) (C := (C_X1_plan_58 N xs d r (C_X1_plan_52 N xs d r (fun τ => r = (none, (SH, τ)))))) (fun v τ h1 h2 => k_X1_plan_B58 d h1 h2) (fun _ h => h) (fun _ h => h) _ _ hJ hC
def F_X1_plan_B52 (x1 : Int32) (x2 : Int32) (s : mG) : Option ((Int32 × Int32 × mG) ⊕ (mG)) :=
  if x2 < 0 then
    some (Sum.inr s)
  else
    F_X1_plan_L58 x1 x2 (ci 0) s
set_option maxRecDepth 4000 in
theorem k_X1_plan_B52 {N : Nat} {xs : Nat → Int32} (d : Nat) {r : Option Value × mH} {s : mG} {x1 : Int32} {x2 : Int32} {τ : ((Int32 × Int32 × mG) ⊕ (mG))} (hJ : F_X1_plan_B52 x1 x2 s = some τ) (hC : (C_X1_plan_52 N xs d r (fun τ => r = (none, (SH, τ)))) τ) : Rn N xs (d + 4) me32 52 [some (.ref 77), some (.int x1), some (.int x2), none, none] [] (SH, s) r := by
  unfold F_X1_plan_B52 at hJ
  refine Rn_sq srt32 26 2 (pc' := (if x2 < 0 then 121 else 56)) (ls' := [some (.ref 77), some (.int x1), some (.int x2), none, none]) (st' := []) (h1 := (SH, s)) rfl (Rn_if (fun h6 => ?_) (fun h6 => ?_))
  · replace hJ := m_ifp h6 hJ
    rw [← Option.some.inj hJ] at hC
    have hC : r = (none, (SH, s)) := hC
    subst hC
    exact Rn_ret srt32 67 rfl rfl rfl
  · replace hJ := m_ifn h6 hJ
    refine Rn_sq srt32 28 2 (pc' := 58) (ls' := [some (.ref 77), some (.int x1), some (.int x2), some (.int (ci 0)), none]) (st' := []) (h1 := (SH, s)) rfl ?_
    exact (k_X1_plan_L58 d hJ hC)
def F_X1_plan_L52 (x1 : Int32) (x2 : Int32) (s : mG) : Option (mG) := whl (fun (v : (Int32 × Int32 × mG)) => F_X1_plan_B52 v.1 v.2.1 v.2.2) (x1, x2, s)
theorem k_X1_plan_L52 {N : Nat} {xs : Nat → Int32} (d : Nat) {r : Option Value × mH} {s : mG} {x1 : Int32} {x2 : Int32} {τ : (mG)} (hJ : F_X1_plan_L52 x1 x2 s = some τ) (hC : (fun τ => r = (none, (SH, τ))) τ) : Rn N xs (d + 4) me32 52 [some (.ref 77), some (.int x1), some (.int x2), none, none] [] (SH, s) r :=
  whl_link (P := fun (v : (Int32 × Int32 × mG)) => Rn N xs (d + 4) me32 52 [some (.ref 77), some (.int v.1), some (.int v.2.1), none, none] [] (SH, v.2.2) r) (C := (C_X1_plan_52 N xs d r (fun τ => r = (none, (SH, τ))))) (fun v τ h1 h2 => k_X1_plan_B52 d h1 h2) (fun _ h => h) (fun _ h => h) _ _ hJ hC
def F_X1_plan_B16 (x1 : Int32) (x2 : Int32) (s : mG) : Option ((Int32 × Int32 × mG) ⊕ (mG)) :=
  if (c8 24) ≤ x2 then
    b1 (F_X1_plan_L52 x1 (c8 23) s) fun τ => some (Sum.inr τ)
  else
    b2 (F_X10_add 78 s) fun v18 s17 =>
    b2 (F_X10_add 80 s17) fun v21 s20 =>
    b1 (F_X1_countGoings x2 s20) fun s23 =>
    some (Sum.inl (x1, (x2 + ci 1), s23))
set_option maxRecDepth 4000 in
theorem k_X1_plan_B16 {N : Nat} {xs : Nat → Int32} (d : Nat) {r : Option Value × mH} {s : mG} {x1 : Int32} {x2 : Int32} {τ : ((Int32 × Int32 × mG) ⊕ (mG))} (hJ : F_X1_plan_B16 x1 x2 s = some τ) (hC : (C_X1_plan_16 N xs d r (fun τ => r = (none, (SH, τ)))) τ) : Rn N xs (d + 4) me32 16 [some (.ref 77), some (.int x1), some (.int x2), none, none] [] (SH, s) r := by
  unfold F_X1_plan_B16 at hJ
  refine Rn_sq srt32 8 3 (pc' := (if (c8 24) ≤ x2 then 49 else 22)) (ls' := [some (.ref 77), some (.int x1), some (.int x2), none, none]) (st' := []) (h1 := (SH, s)) rfl (Rn_if (fun h5 => ?_) (fun h5 => ?_))
  · replace hJ := m_ifp h5 hJ
    refine Rn_sq srt32 24 2 (pc' := 52) (ls' := [some (.ref 77), some (.int x1), some (.int (c8 23)), none, none]) (st' := []) (h1 := (SH, s)) rfl ?_
    obtain ⟨τ1, hJ1, hJ⟩ := m_b1 hJ
    rw [← Option.some.inj hJ] at hC
    exact (k_X1_plan_L52 d hJ1 hC)
  · replace hJ := m_ifn h5 hJ
    refine Rn_sq srt32 11 2 (pc' := 26) (ls' := [some (.ref 77), some (.int x1), some (.int x2), none, none]) (st' := [(.ref 78)]) (h1 := (SH, s)) rfl ?_
    obtain ⟨v18, s17, h16, hJ⟩ := m_b2 hJ
    refine Rn_call srt32 13 rfl rfl rfl ⟨Nat.le_of_ble_eq_true rfl, Nat.le_of_ble_eq_true rfl, rfl, Nat.le_of_ble_eq_true rfl⟩ (k_X10_add 78 (d + 2) isT_78 h16) (show Rn N xs (d + 4) me32 29 [some (.ref 77), some (.int x1), some (.int x2), none, none] [(.int v18)] (SH, s17) r from ?_)
    refine Rn_sq srt32 14 3 (pc' := 34) (ls' := [some (.ref 77), some (.int x1), some (.int x2), none, none]) (st' := [(.ref 80)]) (h1 := (SH, s17)) rfl ?_
    obtain ⟨v21, s20, h19, hJ⟩ := m_b2 hJ
    refine Rn_call srt32 17 rfl rfl rfl ⟨Nat.le_of_ble_eq_true rfl, Nat.le_of_ble_eq_true rfl, rfl, Nat.le_of_ble_eq_true rfl⟩ (k_X10_add 80 (d + 2) isT_80 h19) (show Rn N xs (d + 4) me32 37 [some (.ref 77), some (.int x1), some (.int x2), none, none] [(.int v21)] (SH, s20) r from ?_)
    refine Rn_sq srt32 18 3 (pc' := 40) (ls' := [some (.ref 77), some (.int x1), some (.int x2), none, none]) (st' := [(.int x2), (.ref 77)]) (h1 := (SH, s20)) rfl ?_
    obtain ⟨s23, h22, hJ⟩ := m_b1 hJ
    refine Rn_call srt32 21 rfl rfl rfl ⟨Nat.le_of_ble_eq_true rfl, Nat.le_of_ble_eq_true rfl, rfl, Nat.le_of_ble_eq_true rfl⟩ (k_X1_countGoings (d) h22) (show Rn N xs (d + 4) me32 43 [some (.ref 77), some (.int x1), some (.int x2), none, none] [] (SH, s23) r from ?_)
    refine Rn_sq srt32 22 2 (pc' := 16) (ls' := [some (.ref 77), some (.int x1), some (.int (x2 + ci 1)), none, none]) (st' := []) (h1 := (SH, s23)) rfl ?_
    rw [← Option.some.inj hJ] at hC
    exact hC
def F_X1_plan_L16 (x1 : Int32) (x2 : Int32) (s : mG) : Option (mG) := whl (fun (v : (Int32 × Int32 × mG)) => F_X1_plan_B16 v.1 v.2.1 v.2.2) (x1, x2, s)
theorem k_X1_plan_L16 {N : Nat} {xs : Nat → Int32} (d : Nat) {r : Option Value × mH} {s : mG} {x1 : Int32} {x2 : Int32} {τ : (mG)} (hJ : F_X1_plan_L16 x1 x2 s = some τ) (hC : (fun τ => r = (none, (SH, τ))) τ) : Rn N xs (d + 4) me32 16 [some (.ref 77), some (.int x1), some (.int x2), none, none] [] (SH, s) r :=
  whl_link (P := fun (v : (Int32 × Int32 × mG)) => Rn N xs (d + 4) me32 16 [some (.ref 77), some (.int v.1), some (.int v.2.1), none, none] [] (SH, v.2.2) r) (C := (C_X1_plan_16 N xs d r (fun τ => r = (none, (SH, τ))))) (fun v τ h1 h2 => k_X1_plan_B16 d h1 h2) (fun _ h => h) (fun _ h => h) _ _ hJ hC
def F_X1_plan (a1 : Int32) (s : mG) : Option (mG) :=
  b1 (F_X10_clear 78 s) fun s2 =>
  b1 (F_X10_clear 80 s2) fun s4 =>
  F_X1_plan_L16 a1 (ci 0) s4
set_option maxRecDepth 4000 in
theorem k_X1_plan_r {N : Nat} {xs : Nat → Int32} (d : Nat) {r : Option Value × mH} {s : mG} {a1 : Int32} {τ : (mG)} (hJ : F_X1_plan a1 s = some τ) (hC : (fun τ => r = (none, (SH, τ))) τ) : Rn N xs (d + 4) me32 0 [some (.ref 77), some (.int a1), none, none, none] [] (SH, s) r := by
  unfold F_X1_plan at hJ
  refine Rn_sq srt32 0 2 (pc' := 4) (ls' := [some (.ref 77), some (.int a1), none, none, none]) (st' := [(.ref 78)]) (h1 := (SH, s)) rfl ?_
  obtain ⟨s2, h1, hJ⟩ := m_b1 hJ
  refine Rn_call srt32 2 rfl rfl rfl ⟨Nat.le_of_ble_eq_true rfl, Nat.le_of_ble_eq_true rfl, rfl, Nat.le_of_ble_eq_true rfl⟩ (k_X10_clear 78 (d + 3) isT_78 h1) (show Rn N xs (d + 4) me32 7 [some (.ref 77), some (.int a1), none, none, none] [] (SH, s2) r from ?_)
  refine Rn_sq srt32 3 2 (pc' := 11) (ls' := [some (.ref 77), some (.int a1), none, none, none]) (st' := [(.ref 80)]) (h1 := (SH, s2)) rfl ?_
  obtain ⟨s4, h3, hJ⟩ := m_b1 hJ
  refine Rn_call srt32 5 rfl rfl rfl ⟨Nat.le_of_ble_eq_true rfl, Nat.le_of_ble_eq_true rfl, rfl, Nat.le_of_ble_eq_true rfl⟩ (k_X10_clear 80 (d + 3) isT_80 h3) (show Rn N xs (d + 4) me32 14 [some (.ref 77), some (.int a1), none, none, none] [] (SH, s4) r from ?_)
  refine Rn_sq srt32 6 2 (pc' := 16) (ls' := [some (.ref 77), some (.int a1), some (.int (ci 0)), none, none]) (st' := []) (h1 := (SH, s4)) rfl ?_
  exact (k_X1_plan_L16 d hJ hC)
theorem k_X1_plan {N : Nat} {xs : Nat → Int32} (d : Nat) {s : mG} {a1 : Int32} {τ : (mG)} (hJ : F_X1_plan a1 s = some τ) : Rn N xs (d + 4) me32 0 [some (.ref 77), some (.int a1), none, none, none] [] (SH, s) (none, (SH, τ)) := k_X1_plan_r d hJ rfl
/-! IsHeIn$Foresight.mostSeen()I -/
theorem srt35 : m_srt mc35 = true := by decide +kernel
def F_X1_mostSeen (s : mG) : Option (Int32) :=
  b1 (F_X10_at 80 s (ci 0) (ci 0)) fun v2 =>
  b1 (F_X10_at 80 s (ci 0) (ci 1)) fun v4 =>
  some (imax v2 v4)
set_option maxRecDepth 4000 in
theorem k_X1_mostSeen_r {N : Nat} {xs : Nat → Int32} (d : Nat) {r : Option Value × mH} {s : mG} {τ : (Int32)} (hJ : F_X1_mostSeen s = some τ) (hC : (fun τ => r = (some (.int τ), (SH, s))) τ) : Rn N xs (d + 1) me35 0 [some (.ref 77)] [] (SH, s) r := by
  unfold F_X1_mostSeen at hJ
  refine Rn_sq srt35 0 4 (pc' := 6) (ls' := [some (.ref 77)]) (st' := [(.int (ci 0)), (.int (ci 0)), (.ref 80)]) (h1 := (SH, s)) rfl ?_
  obtain ⟨v2, h1, hJ⟩ := m_b1 hJ
  refine Rn_call srt35 4 rfl rfl rfl ⟨Nat.le_of_ble_eq_true rfl, Nat.le_of_ble_eq_true rfl, rfl, Nat.le_of_ble_eq_true rfl⟩ (k_X10_at 80 (d) isT_80 h1) (show Rn N xs (d + 1) me35 9 [some (.ref 77)] [(.int v2)] (SH, s) r from ?_)
  refine Rn_sq srt35 5 4 (pc' := 15) (ls' := [some (.ref 77)]) (st' := [(.int (ci 1)), (.int (ci 0)), (.ref 80), (.int v2)]) (h1 := (SH, s)) rfl ?_
  obtain ⟨v4, h3, hJ⟩ := m_b1 hJ
  refine Rn_call srt35 9 rfl rfl rfl ⟨Nat.le_of_ble_eq_true rfl, Nat.le_of_ble_eq_true rfl, rfl, Nat.le_of_ble_eq_true rfl⟩ (k_X10_at 80 (d) isT_80 h3) (show Rn N xs (d + 1) me35 18 [some (.ref 77)] [(.int v4), (.int v2)] (SH, s) r from ?_)
  refine Rn_sq srt35 10 1 (pc' := 21) (ls' := [some (.ref 77)]) (st' := [(.int (imax v2 v4))]) (h1 := (SH, s)) rfl ?_
  rw [← Option.some.inj hJ] at hC
  have hC : r = (some (.int (imax v2 v4)), (SH, s)) := hC
  subst hC
  exact Rn_ret srt35 11 rfl rfl rfl
theorem k_X1_mostSeen {N : Nat} {xs : Nat → Int32} (d : Nat) {s : mG} {τ : (Int32)} (hJ : F_X1_mostSeen s = some τ) : Rn N xs (d + 1) me35 0 [some (.ref 77)] [] (SH, s) (some (.int τ), (SH, s)) := k_X1_mostSeen_r d hJ rfl
/-! IsHeIn$Foresight.doorAt(II)I -/
theorem srt36 : m_srt mc36 = true := by decide +kernel
def C_X1_doorAt_30 (N : Nat) (xs : Nat → Int32) (s : mG) (d : Nat) (r : Option Value × mH) (C : (Int32) → Prop) : ((Int32 × Int32 × Int32 × Int32) ⊕ (Int32)) → Prop
  | .inl v => Rn N xs (d + 2) me36 30 [some (.ref 77), some (.int v.1), some (.int v.2.1), some (.int v.2.2.1), some (.int v.2.2.2)] [] (SH, s) r
  | .inr a => C a
def F_X1_doorAt_76 (s : mG) (x3 : Int32) : Option (Int32) :=
  some x3
set_option maxRecDepth 4000 in
theorem k_X1_doorAt_76 {N : Nat} {xs : Nat → Int32} (d : Nat) {r : Option Value × mH} {s : mG} {x3 : Int32} {τ : (Int32)} (hJ : F_X1_doorAt_76 s x3 = some τ) (hC : (fun τ => r = (some (.int τ), (SH, s))) τ) : Rn N xs (d + 2) me36 76 [none, none, none, some (.int x3), none] [] (SH, s) r := by
  unfold F_X1_doorAt_76 at hJ
  refine Rn_sq srt36 42 1 (pc' := 77) (ls' := [none, none, none, some (.int x3), none]) (st' := [(.int x3)]) (h1 := (SH, s)) rfl ?_
  rw [← Option.some.inj hJ] at hC
  have hC : r = (some (.int x3), (SH, s)) := hC
  subst hC
  exact Rn_ret srt36 43 rfl rfl rfl
def F_X1_doorAt_69 (s : mG) (x1 : Int32) (x2 : Int32) (x4 : Int32) (y0 : Int32) : Option ((Int32 × Int32 × Int32 × Int32) ⊕ (Int32)) :=
  some (Sum.inl (x1, x2, y0, (x4 + ci 1)))
set_option maxRecDepth 4000 in
theorem k_X1_doorAt_69 {N : Nat} {xs : Nat → Int32} (d : Nat) {r : Option Value × mH} {s : mG} {x1 : Int32} {x2 : Int32} {x4 : Int32} {y0 : Int32} {τ : ((Int32 × Int32 × Int32 × Int32) ⊕ (Int32))} (hJ : F_X1_doorAt_69 s x1 x2 x4 y0 = some τ) (hC : (C_X1_doorAt_30 N xs s d r (fun τ => r = (some (.int τ), (SH, s)))) τ) : Rn N xs (d + 2) me36 69 [some (.ref 77), some (.int x1), some (.int x2), none, some (.int x4)] [(.int y0)] (SH, s) r := by
  unfold F_X1_doorAt_69 at hJ
  refine Rn_sq srt36 39 3 (pc' := 30) (ls' := [some (.ref 77), some (.int x1), some (.int x2), some (.int y0), some (.int (x4 + ci 1))]) (st' := []) (h1 := (SH, s)) rfl ?_
  rw [← Option.some.inj hJ] at hC
  exact hC
def F_X1_doorAt_B30 (s : mG) (x1 : Int32) (x2 : Int32) (x3 : Int32) (x4 : Int32) : Option ((Int32 × Int32 × Int32 × Int32) ⊕ (Int32)) :=
  if x1 < x4 then
    b1 (F_X1_doorAt_76 s x3) fun τ => some (Sum.inr τ)
  else
    if (c8 24) ≤ x4 then
      b1 (F_X1_doorAt_76 s x3) fun τ => some (Sum.inr τ)
    else
      b1 (F_X1_restFrom s x4 x3 (ci 0) x2) fun v9 =>
      b1 (F_X1_restFrom s x4 x3 (ci 1) x2) fun v11 =>
      if v9 < v11 then
        F_X1_doorAt_69 s x1 x2 x4 (ci 1)
      else
        F_X1_doorAt_69 s x1 x2 x4 (ci 0)
set_option maxRecDepth 4000 in
theorem k_X1_doorAt_B30 {N : Nat} {xs : Nat → Int32} (d : Nat) {r : Option Value × mH} {s : mG} {x1 : Int32} {x2 : Int32} {x3 : Int32} {x4 : Int32} {τ : ((Int32 × Int32 × Int32 × Int32) ⊕ (Int32))} (hJ : F_X1_doorAt_B30 s x1 x2 x3 x4 = some τ) (hC : (C_X1_doorAt_30 N xs s d r (fun τ => r = (some (.int τ), (SH, s)))) τ) : Rn N xs (d + 2) me36 30 [some (.ref 77), some (.int x1), some (.int x2), some (.int x3), some (.int x4)] [] (SH, s) r := by
  unfold F_X1_doorAt_B30 at hJ
  refine Rn_sq srt36 17 3 (pc' := (if x1 < x4 then 76 else 36)) (ls' := [some (.ref 77), some (.int x1), some (.int x2), some (.int x3), some (.int x4)]) (st' := []) (h1 := (SH, s)) rfl (Rn_if (fun h6 => ?_) (fun h6 => ?_))
  · replace hJ := m_ifp h6 hJ
    obtain ⟨τ1, hJ1, hJ⟩ := m_b1 hJ
    rw [← Option.some.inj hJ] at hC
    exact Rn_weaken (a := [none, none, none, some (.int x3), none]) (b := [some (.ref 77), some (.int x1), some (.int x2), some (.int x3), some (.int x4)]) (And.intro rfl trivial) rfl (k_X1_doorAt_76 d hJ1 hC)
  · replace hJ := m_ifn h6 hJ
    refine Rn_sq srt36 20 3 (pc' := (if (c8 24) ≤ x4 then 76 else 43)) (ls' := [some (.ref 77), some (.int x1), some (.int x2), some (.int x3), some (.int x4)]) (st' := []) (h1 := (SH, s)) rfl (Rn_if (fun h7 => ?_) (fun h7 => ?_))
    · replace hJ := m_ifp h7 hJ
      obtain ⟨τ1, hJ1, hJ⟩ := m_b1 hJ
      rw [← Option.some.inj hJ] at hC
      exact Rn_weaken (a := [none, none, none, some (.int x3), none]) (b := [some (.ref 77), some (.int x1), some (.int x2), some (.int x3), some (.int x4)]) (And.intro rfl trivial) rfl (k_X1_doorAt_76 d hJ1 hC)
    · replace hJ := m_ifn h7 hJ
      refine Rn_sq srt36 23 5 (pc' := 49) (ls' := [some (.ref 77), some (.int x1), some (.int x2), some (.int x3), some (.int x4)]) (st' := [(.int x2), (.int (ci 0)), (.int x3), (.int x4), (.ref 77)]) (h1 := (SH, s)) rfl ?_
      obtain ⟨v9, h8, hJ⟩ := m_b1 hJ
      refine Rn_call srt36 28 rfl rfl rfl ⟨Nat.le_of_ble_eq_true rfl, Nat.le_of_ble_eq_true rfl, rfl, Nat.le_of_ble_eq_true rfl⟩ (k_X1_restFrom (d) h8) (show Rn N xs (d + 2) me36 52 [some (.ref 77), some (.int x1), some (.int x2), some (.int x3), some (.int x4)] [(.int v9)] (SH, s) r from ?_)
      refine Rn_sq srt36 29 5 (pc' := 58) (ls' := [some (.ref 77), some (.int x1), some (.int x2), some (.int x3), some (.int x4)]) (st' := [(.int x2), (.int (ci 1)), (.int x3), (.int x4), (.ref 77), (.int v9)]) (h1 := (SH, s)) rfl ?_
      obtain ⟨v11, h10, hJ⟩ := m_b1 hJ
      refine Rn_call srt36 34 rfl rfl rfl ⟨Nat.le_of_ble_eq_true rfl, Nat.le_of_ble_eq_true rfl, rfl, Nat.le_of_ble_eq_true rfl⟩ (k_X1_restFrom (d) h10) (show Rn N xs (d + 2) me36 61 [some (.ref 77), some (.int x1), some (.int x2), some (.int x3), some (.int x4)] [(.int v11), (.int v9)] (SH, s) r from ?_)
      refine Rn_sq srt36 35 1 (pc' := (if v9 < v11 then 68 else 64)) (ls' := [some (.ref 77), some (.int x1), some (.int x2), some (.int x3), some (.int x4)]) (st' := []) (h1 := (SH, s)) rfl (Rn_if (fun h12 => ?_) (fun h12 => ?_))
      · replace hJ := m_ifp h12 hJ
        refine Rn_sq srt36 38 1 (pc' := 69) (ls' := [some (.ref 77), some (.int x1), some (.int x2), some (.int x3), some (.int x4)]) (st' := [(.int (ci 1))]) (h1 := (SH, s)) rfl ?_
        exact Rn_weaken (a := [some (.ref 77), some (.int x1), some (.int x2), none, some (.int x4)]) (b := [some (.ref 77), some (.int x1), some (.int x2), some (.int x3), some (.int x4)]) (And.intro rfl (And.intro rfl (And.intro rfl (And.intro rfl trivial)))) rfl (k_X1_doorAt_69 d hJ hC)
      · replace hJ := m_ifn h12 hJ
        refine Rn_sq srt36 36 2 (pc' := 69) (ls' := [some (.ref 77), some (.int x1), some (.int x2), some (.int x3), some (.int x4)]) (st' := [(.int (ci 0))]) (h1 := (SH, s)) rfl ?_
        exact Rn_weaken (a := [some (.ref 77), some (.int x1), some (.int x2), none, some (.int x4)]) (b := [some (.ref 77), some (.int x1), some (.int x2), some (.int x3), some (.int x4)]) (And.intro rfl (And.intro rfl (And.intro rfl (And.intro rfl trivial)))) rfl (k_X1_doorAt_69 d hJ hC)
def F_X1_doorAt_L30 (s : mG) (x1 : Int32) (x2 : Int32) (x3 : Int32) (x4 : Int32) : Option (Int32) := whl (fun (v : (Int32 × Int32 × Int32 × Int32)) => F_X1_doorAt_B30 s v.1 v.2.1 v.2.2.1 v.2.2.2) (x1, x2, x3, x4)
theorem k_X1_doorAt_L30 {N : Nat} {xs : Nat → Int32} (d : Nat) {r : Option Value × mH} {s : mG} {x1 : Int32} {x2 : Int32} {x3 : Int32} {x4 : Int32} {τ : (Int32)} (hJ : F_X1_doorAt_L30 s x1 x2 x3 x4 = some τ) (hC : (fun τ => r = (some (.int τ), (SH, s))) τ) : Rn N xs (d + 2) me36 30 [some (.ref 77), some (.int x1), some (.int x2), some (.int x3), some (.int x4)] [] (SH, s) r :=
  whl_link (P := fun (v : (Int32 × Int32 × Int32 × Int32)) => Rn N xs (d + 2) me36 30 [some (.ref 77), some (.int v.1), some (.int v.2.1), some (.int v.2.2.1), some (.int v.2.2.2)] [] (SH, s) r) (C := (C_X1_doorAt_30 N xs s d r (fun τ => r = (some (.int τ), (SH, s))))) (fun v τ h1 h2 => k_X1_doorAt_B30 d h1 h2) (fun _ h => h) (fun _ h => h) _ _ hJ hC
def F_X1_doorAt_26 (s : mG) (x1 : Int32) (x2 : Int32) (y0 : Int32) : Option (Int32) :=
  F_X1_doorAt_L30 s x1 x2 y0 (ci 1)
set_option maxRecDepth 4000 in
theorem k_X1_doorAt_26 {N : Nat} {xs : Nat → Int32} (d : Nat) {r : Option Value × mH} {s : mG} {x1 : Int32} {x2 : Int32} {y0 : Int32} {τ : (Int32)} (hJ : F_X1_doorAt_26 s x1 x2 y0 = some τ) (hC : (fun τ => r = (some (.int τ), (SH, s))) τ) : Rn N xs (d + 2) me36 26 [some (.ref 77), some (.int x1), some (.int x2), none, none] [(.int y0)] (SH, s) r := by
  unfold F_X1_doorAt_26 at hJ
  refine Rn_sq srt36 14 3 (pc' := 30) (ls' := [some (.ref 77), some (.int x1), some (.int x2), some (.int y0), some (.int (ci 1))]) (st' := []) (h1 := (SH, s)) rfl ?_
  exact (k_X1_doorAt_L30 d hJ hC)
def F_X1_doorAt (s : mG) (a1 : Int32) (a2 : Int32) : Option (Int32) :=
  b1 (F_X10_at 80 s (ci 0) (ci 0)) fun v2 =>
  b1 (F_X10_at 80 s (ci 0) (ci 1)) fun v4 =>
  if v2 < v4 then
    F_X1_doorAt_26 s a1 a2 (ci 1)
  else
    F_X1_doorAt_26 s a1 a2 (ci 0)
set_option maxRecDepth 4000 in
theorem k_X1_doorAt_r {N : Nat} {xs : Nat → Int32} (d : Nat) {r : Option Value × mH} {s : mG} {a1 : Int32} {a2 : Int32} {τ : (Int32)} (hJ : F_X1_doorAt s a1 a2 = some τ) (hC : (fun τ => r = (some (.int τ), (SH, s))) τ) : Rn N xs (d + 2) me36 0 [some (.ref 77), some (.int a1), some (.int a2), none, none] [] (SH, s) r := by
  unfold F_X1_doorAt at hJ
  refine Rn_sq srt36 0 4 (pc' := 6) (ls' := [some (.ref 77), some (.int a1), some (.int a2), none, none]) (st' := [(.int (ci 0)), (.int (ci 0)), (.ref 80)]) (h1 := (SH, s)) rfl ?_
  obtain ⟨v2, h1, hJ⟩ := m_b1 hJ
  refine Rn_call srt36 4 rfl rfl rfl ⟨Nat.le_of_ble_eq_true rfl, Nat.le_of_ble_eq_true rfl, rfl, Nat.le_of_ble_eq_true rfl⟩ (k_X10_at 80 (d + 1) isT_80 h1) (show Rn N xs (d + 2) me36 9 [some (.ref 77), some (.int a1), some (.int a2), none, none] [(.int v2)] (SH, s) r from ?_)
  refine Rn_sq srt36 5 4 (pc' := 15) (ls' := [some (.ref 77), some (.int a1), some (.int a2), none, none]) (st' := [(.int (ci 1)), (.int (ci 0)), (.ref 80), (.int v2)]) (h1 := (SH, s)) rfl ?_
  obtain ⟨v4, h3, hJ⟩ := m_b1 hJ
  refine Rn_call srt36 9 rfl rfl rfl ⟨Nat.le_of_ble_eq_true rfl, Nat.le_of_ble_eq_true rfl, rfl, Nat.le_of_ble_eq_true rfl⟩ (k_X10_at 80 (d + 1) isT_80 h3) (show Rn N xs (d + 2) me36 18 [some (.ref 77), some (.int a1), some (.int a2), none, none] [(.int v4), (.int v2)] (SH, s) r from ?_)
  refine Rn_sq srt36 10 1 (pc' := (if v2 < v4 then 25 else 21)) (ls' := [some (.ref 77), some (.int a1), some (.int a2), none, none]) (st' := []) (h1 := (SH, s)) rfl (Rn_if (fun h5 => ?_) (fun h5 => ?_))
  · replace hJ := m_ifp h5 hJ
    refine Rn_sq srt36 13 1 (pc' := 26) (ls' := [some (.ref 77), some (.int a1), some (.int a2), none, none]) (st' := [(.int (ci 1))]) (h1 := (SH, s)) rfl ?_
    exact (k_X1_doorAt_26 d hJ hC)
  · replace hJ := m_ifn h5 hJ
    refine Rn_sq srt36 11 2 (pc' := 26) (ls' := [some (.ref 77), some (.int a1), some (.int a2), none, none]) (st' := [(.int (ci 0))]) (h1 := (SH, s)) rfl ?_
    exact (k_X1_doorAt_26 d hJ hC)
theorem k_X1_doorAt {N : Nat} {xs : Nat → Int32} (d : Nat) {s : mG} {a1 : Int32} {a2 : Int32} {τ : (Int32)} (hJ : F_X1_doorAt s a1 a2 = some τ) : Rn N xs (d + 2) me36 0 [some (.ref 77), some (.int a1), some (.int a2), none, none] [] (SH, s) (some (.int τ), (SH, s)) := k_X1_doorAt_r d hJ rfl
/-! IsHeIn$Table.copyFrom(LIsHeIn$Table;)V -/
theorem srt138 : m_srt mc138 = true := by decide +kernel
def C_X10_copyFrom_27 (N : Nat) (xs : Nat → Int32) (t : Nat) (a1 : Nat) (d : Nat) (r : Option Value × mH) (C : (mG) → Prop) : ((Int32 × Int32 × mG) ⊕ (mG)) → Prop
  | .inl v => Rn N xs (d + 0) me138 27 [some (.ref t), some (.ref a1), some (.int v.1), some (.int v.2.1)] [] (SH, v.2.2) r
  | .inr a => C a
def F_X10_copyFrom_B27 (t : Nat) (a1 : Nat) (x2 : Int32) (x3 : Int32) (s : mG) : Option ((Int32 × Int32 × mG) ⊕ (mG)) :=
  if x2 ≤ x3 then
    some (Sum.inr s)
  else
    if (cn (m_alen (t + 1))) ≤ x3 then
      some (Sum.inr s)
    else
      if (cn (m_alen (a1 + 1))) ≤ x3 then
        some (Sum.inr s)
      else
        if x3 < 0 ∨ m_alen (a1 + 1) ≤ x3.toNatClampNeg then none else
        if x3 < 0 ∨ m_alen (t + 1) ≤ x3.toNatClampNeg then none else
        let s8 : mG := (mu s.1 (t + 1) x3.toNatClampNeg (s.1 (a1 + 1) x3.toNatClampNeg), s.2)
        some (Sum.inl (x2, (x3 + ci 1), s8))
set_option maxRecDepth 4000 in
theorem k_X10_copyFrom_B27 {N : Nat} {xs : Nat → Int32} (t : Nat) (a1 : Nat) (d : Nat) (h_t : isT t) (h_a1 : isT a1) {r : Option Value × mH} {s : mG} {x2 : Int32} {x3 : Int32} {τ : ((Int32 × Int32 × mG) ⊕ (mG))} (hJ : F_X10_copyFrom_B27 t a1 x2 x3 s = some τ) (hC : (C_X10_copyFrom_27 N xs t a1 d r (fun τ => r = (none, (SH, τ)))) τ) : Rn N xs (d + 0) me138 27 [some (.ref t), some (.ref a1), some (.int x2), some (.int x3)] [] (SH, s) r := by
  unfold F_X10_copyFrom_B27 at hJ
  refine Rn_sq srt138 15 3 (pc' := (if x2 ≤ x3 then 68 else 32)) (ls' := [some (.ref t), some (.ref a1), some (.int x2), some (.int x3)]) (st' := []) (h1 := (SH, s)) rfl (Rn_if (fun h3 => ?_) (fun h3 => ?_))
  · replace hJ := m_ifp h3 hJ
    rw [← Option.some.inj hJ] at hC
    have hC : r = (none, (SH, s)) := hC
    subst hC
    exact Rn_ret srt138 38 rfl rfl rfl
  · replace hJ := m_ifn h3 hJ
    refine Rn_sq srt138 18 2 (pc' := 34) (ls' := [some (.ref t), some (.ref a1), some (.int x2), some (.int x3)]) (st' := [(.ref t), (.int x3)]) (h1 := (SH, s)) rfl ?_
    refine Rn_ev srt138 20 rfl rfl rfl (op_gfT2 h_t) ?_
    refine Rn_ev srt138 21 rfl rfl rfl (op_alT h_t) ?_
    refine Rn_sq srt138 22 1 (pc' := (if (cn (m_alen (t + 1))) ≤ x3 then 68 else 41)) (ls' := [some (.ref t), some (.ref a1), some (.int x2), some (.int x3)]) (st' := []) (h1 := (SH, s)) rfl (Rn_if (fun h4 => ?_) (fun h4 => ?_))
    · replace hJ := m_ifp h4 hJ
      rw [← Option.some.inj hJ] at hC
      have hC : r = (none, (SH, s)) := hC
      subst hC
      exact Rn_ret srt138 38 rfl rfl rfl
    · replace hJ := m_ifn h4 hJ
      refine Rn_sq srt138 23 2 (pc' := 43) (ls' := [some (.ref t), some (.ref a1), some (.int x2), some (.int x3)]) (st' := [(.ref a1), (.int x3)]) (h1 := (SH, s)) rfl ?_
      refine Rn_ev srt138 25 rfl rfl rfl (op_gfT2 h_a1) ?_
      refine Rn_ev srt138 26 rfl rfl rfl (op_alT h_a1) ?_
      refine Rn_sq srt138 27 1 (pc' := (if (cn (m_alen (a1 + 1))) ≤ x3 then 68 else 50)) (ls' := [some (.ref t), some (.ref a1), some (.int x2), some (.int x3)]) (st' := []) (h1 := (SH, s)) rfl (Rn_if (fun h5 => ?_) (fun h5 => ?_))
      · replace hJ := m_ifp h5 hJ
        rw [← Option.some.inj hJ] at hC
        have hC : r = (none, (SH, s)) := hC
        subst hC
        exact Rn_ret srt138 38 rfl rfl rfl
      · replace hJ := m_ifn h5 hJ
        refine Rn_sq srt138 28 1 (pc' := 51) (ls' := [some (.ref t), some (.ref a1), some (.int x2), some (.int x3)]) (st' := [(.ref t)]) (h1 := (SH, s)) rfl ?_
        refine Rn_ev srt138 29 rfl rfl rfl (op_gfT2 h_t) ?_
        refine Rn_sq srt138 30 2 (pc' := 56) (ls' := [some (.ref t), some (.ref a1), some (.int x2), some (.int x3)]) (st' := [(.ref a1), (.int x3), (.ref (t + 1))]) (h1 := (SH, s)) rfl ?_
        refine Rn_ev srt138 32 rfl rfl rfl (op_gfT2 h_a1) ?_
        refine Rn_sq srt138 33 1 (pc' := 60) (ls' := [some (.ref t), some (.ref a1), some (.int x2), some (.int x3)]) (st' := [(.int x3), (.ref (a1 + 1)), (.int x3), (.ref (t + 1))]) (h1 := (SH, s)) rfl ?_
        obtain ⟨h6, hJ⟩ := m_gn hJ
        refine Rn_ev srt138 34 rfl rfl rfl (op_ia h_a1.2 h6 (k := x3.toNatClampNeg) rfl) ?_
        obtain ⟨h7, hJ⟩ := m_gn hJ
        extract_lets +onlyGivenNames s8 at hJ
        refine Rn_ev srt138 35 rfl rfl rfl (op_ias h_t.2 h7 (k := x3.toNatClampNeg) rfl) ?_
        refine Rn_sq srt138 36 2 (pc' := 27) (ls' := [some (.ref t), some (.ref a1), some (.int x2), some (.int (x3 + ci 1))]) (st' := []) (h1 := (SH, s8)) rfl ?_
        rw [← Option.some.inj hJ] at hC
        exact hC
def F_X10_copyFrom_L27 (t : Nat) (a1 : Nat) (x2 : Int32) (x3 : Int32) (s : mG) : Option (mG) := whl (fun (v : (Int32 × Int32 × mG)) => F_X10_copyFrom_B27 t a1 v.1 v.2.1 v.2.2) (x2, x3, s)
theorem k_X10_copyFrom_L27 {N : Nat} {xs : Nat → Int32} (t : Nat) (a1 : Nat) (d : Nat) (h_t : isT t) (h_a1 : isT a1) {r : Option Value × mH} {s : mG} {x2 : Int32} {x3 : Int32} {τ : (mG)} (hJ : F_X10_copyFrom_L27 t a1 x2 x3 s = some τ) (hC : (fun τ => r = (none, (SH, τ))) τ) : Rn N xs (d + 0) me138 27 [some (.ref t), some (.ref a1), some (.int x2), some (.int x3)] [] (SH, s) r :=
  whl_link (P := fun (v : (Int32 × Int32 × mG)) => Rn N xs (d + 0) me138 27 [some (.ref t), some (.ref a1), some (.int v.1), some (.int v.2.1)] [] (SH, v.2.2) r) (C := (C_X10_copyFrom_27 N xs t a1 d r (fun τ => r = (none, (SH, τ))))) (fun v τ h1 h2 => k_X10_copyFrom_B27 t a1 d h_t h_a1 h1 h2) (fun _ h => h) (fun _ h => h) _ _ hJ hC
def F_X10_copyFrom (t : Nat) (a1 : Nat) (s : mG) : Option (mG) :=
  let s1 : mG := (mu s.1 t 3 (imin (s.1 a1 3) (s.1 t 0)), s.2)
  let v2 : Int32 := ((s1.1 t 3) * (s1.1 t 1))
  F_X10_copyFrom_L27 t a1 v2 (ci 0) s1
set_option maxRecDepth 4000 in
theorem k_X10_copyFrom_r {N : Nat} {xs : Nat → Int32} (t : Nat) (a1 : Nat) (d : Nat) (h_t : isT t) (h_a1 : isT a1) {r : Option Value × mH} {s : mG} {τ : (mG)} (hJ : F_X10_copyFrom t a1 s = some τ) (hC : (fun τ => r = (none, (SH, τ))) τ) : Rn N xs (d + 0) me138 0 [some (.ref t), some (.ref a1), none, none] [] (SH, s) r := by
  unfold F_X10_copyFrom at hJ
  refine Rn_sq srt138 0 2 (pc' := 2) (ls' := [some (.ref t), some (.ref a1), none, none]) (st' := [(.ref a1), (.ref t)]) (h1 := (SH, s)) rfl ?_
  refine Rn_ev srt138 2 rfl rfl rfl (op_gfT3 h_a1) ?_
  refine Rn_sq srt138 3 1 (pc' := 6) (ls' := [some (.ref t), some (.ref a1), none, none]) (st' := [(.ref t), (.int (s.1 a1 3)), (.ref t)]) (h1 := (SH, s)) rfl ?_
  refine Rn_ev srt138 4 rfl rfl rfl (op_gfT0 h_t) ?_
  refine Rn_sq srt138 5 1 (pc' := 12) (ls' := [some (.ref t), some (.ref a1), none, none]) (st' := [(.int (imin (s.1 a1 3) (s.1 t 0))), (.ref t)]) (h1 := (SH, s)) rfl ?_
  extract_lets +onlyGivenNames s1 at hJ
  refine Rn_ev srt138 6 rfl rfl rfl (op_pfT3 h_t) ?_
  refine Rn_sq srt138 7 1 (pc' := 16) (ls' := [some (.ref t), some (.ref a1), none, none]) (st' := [(.ref t)]) (h1 := (SH, s1)) rfl ?_
  refine Rn_ev srt138 8 rfl rfl rfl (op_gfT3 h_t) ?_
  refine Rn_sq srt138 9 1 (pc' := 20) (ls' := [some (.ref t), some (.ref a1), none, none]) (st' := [(.ref t), (.int (s1.1 t 3))]) (h1 := (SH, s1)) rfl ?_
  refine Rn_ev srt138 10 rfl rfl rfl (op_gfT1 h_t) ?_
  extract_lets +onlyGivenNames v2 at hJ
  refine Rn_sq srt138 11 4 (pc' := 27) (ls' := [some (.ref t), some (.ref a1), some (.int v2), some (.int (ci 0))]) (st' := []) (h1 := (SH, s1)) rfl ?_
  exact (k_X10_copyFrom_L27 t a1 d h_t h_a1 hJ hC)
theorem k_X10_copyFrom {N : Nat} {xs : Nat → Int32} (t : Nat) (a1 : Nat) (d : Nat) (h_t : isT t) (h_a1 : isT a1) {s : mG} {τ : (mG)} (hJ : F_X10_copyFrom t a1 s = some τ) : Rn N xs (d + 0) me138 0 [some (.ref t), some (.ref a1), none, none] [] (SH, s) (none, (SH, τ)) := k_X10_copyFrom_r t a1 d h_t h_a1 hJ rfl
/-! IsHeIn$House.copyFrom(LIsHeIn$House;)V -/
theorem srt38 : m_srt mc38 = true := by decide +kernel
def F_X2_copyFrom (hh : Nat) (a1 : Nat) (s : mG) : Option (mG) :=
  b1 (F_X10_copyFrom (hh + 1) (a1 + 1) s) fun s2 =>
  b1 (F_X10_copyFrom (hh + 3) (a1 + 3) s2) fun s4 =>
  b1 (F_X10_copyFrom (hh + 5) (a1 + 5) s4) fun s6 =>
  b1 (F_X10_copyFrom (hh + 7) (a1 + 7) s6) fun s8 =>
  b1 (F_X10_copyFrom (hh + 9) (a1 + 9) s8) fun s10 =>
  b1 (F_X10_copyFrom (hh + 11) (a1 + 11) s10) fun s12 =>
  b1 (F_X10_copyFrom (hh + 13) (a1 + 13) s12) fun s14 =>
  b1 (F_X10_copyFrom (hh + 15) (a1 + 15) s14) fun s16 =>
  let s17 : mG := (mu s16.1 hh 8 (s16.1 a1 8), s16.2)
  let s18 : mG := (mu s17.1 hh 9 (s17.1 a1 9), s17.2)
  let s19 : mG := (mu s18.1 hh 10 (s18.1 a1 10), s18.2)
  let s20 : mG := (mu s19.1 hh 11 (s19.1 a1 11), s19.2)
  some s20
set_option maxRecDepth 4000 in
theorem k_X2_copyFrom_r {N : Nat} {xs : Nat → Int32} (hh : Nat) (a1 : Nat) (d : Nat) (h_hh : isH hh) (h_a1 : isH a1) {r : Option Value × mH} {s : mG} {τ : (mG)} (hJ : F_X2_copyFrom hh a1 s = some τ) (hC : (fun τ => r = (none, (SH, τ))) τ) : Rn N xs (d + 1) me38 0 [some (.ref hh), some (.ref a1)] [] (SH, s) r := by
  unfold F_X2_copyFrom at hJ
  refine Rn_sq srt38 0 1 (pc' := 1) (ls' := [some (.ref hh), some (.ref a1)]) (st' := [(.ref hh)]) (h1 := (SH, s)) rfl ?_
  refine Rn_ev srt38 1 rfl rfl rfl (op_gfH0 h_hh) ?_
  refine Rn_sq srt38 2 1 (pc' := 5) (ls' := [some (.ref hh), some (.ref a1)]) (st' := [(.ref a1), (.ref (hh + 1))]) (h1 := (SH, s)) rfl ?_
  refine Rn_ev srt38 3 rfl rfl rfl (op_gfH0 h_a1) ?_
  obtain ⟨s2, h1, hJ⟩ := m_b1 hJ
  refine Rn_call srt38 4 rfl rfl rfl ⟨Nat.le_of_ble_eq_true rfl, Nat.le_of_ble_eq_true rfl, (recv_T (isH_t h_hh 0 (by decide))), Nat.le_of_ble_eq_true rfl⟩ (k_X10_copyFrom (hh + 1) (a1 + 1) (d) (isH_t h_hh 0 (by decide)) (isH_t h_a1 0 (by decide)) h1) (show Rn N xs (d + 1) me38 11 [some (.ref hh), some (.ref a1)] [] (SH, s2) r from ?_)
  refine Rn_sq srt38 5 1 (pc' := 12) (ls' := [some (.ref hh), some (.ref a1)]) (st' := [(.ref hh)]) (h1 := (SH, s2)) rfl ?_
  refine Rn_ev srt38 6 rfl rfl rfl (op_gfH1 h_hh) ?_
  refine Rn_sq srt38 7 1 (pc' := 16) (ls' := [some (.ref hh), some (.ref a1)]) (st' := [(.ref a1), (.ref (hh + 3))]) (h1 := (SH, s2)) rfl ?_
  refine Rn_ev srt38 8 rfl rfl rfl (op_gfH1 h_a1) ?_
  obtain ⟨s4, h3, hJ⟩ := m_b1 hJ
  refine Rn_call srt38 9 rfl rfl rfl ⟨Nat.le_of_ble_eq_true rfl, Nat.le_of_ble_eq_true rfl, (recv_T (isH_t h_hh 1 (by decide))), Nat.le_of_ble_eq_true rfl⟩ (k_X10_copyFrom (hh + 3) (a1 + 3) (d) (isH_t h_hh 1 (by decide)) (isH_t h_a1 1 (by decide)) h3) (show Rn N xs (d + 1) me38 22 [some (.ref hh), some (.ref a1)] [] (SH, s4) r from ?_)
  refine Rn_sq srt38 10 1 (pc' := 23) (ls' := [some (.ref hh), some (.ref a1)]) (st' := [(.ref hh)]) (h1 := (SH, s4)) rfl ?_
  refine Rn_ev srt38 11 rfl rfl rfl (op_gfH2 h_hh) ?_
  refine Rn_sq srt38 12 1 (pc' := 27) (ls' := [some (.ref hh), some (.ref a1)]) (st' := [(.ref a1), (.ref (hh + 5))]) (h1 := (SH, s4)) rfl ?_
  refine Rn_ev srt38 13 rfl rfl rfl (op_gfH2 h_a1) ?_
  obtain ⟨s6, h5, hJ⟩ := m_b1 hJ
  refine Rn_call srt38 14 rfl rfl rfl ⟨Nat.le_of_ble_eq_true rfl, Nat.le_of_ble_eq_true rfl, (recv_T (isH_t h_hh 2 (by decide))), Nat.le_of_ble_eq_true rfl⟩ (k_X10_copyFrom (hh + 5) (a1 + 5) (d) (isH_t h_hh 2 (by decide)) (isH_t h_a1 2 (by decide)) h5) (show Rn N xs (d + 1) me38 33 [some (.ref hh), some (.ref a1)] [] (SH, s6) r from ?_)
  refine Rn_sq srt38 15 1 (pc' := 34) (ls' := [some (.ref hh), some (.ref a1)]) (st' := [(.ref hh)]) (h1 := (SH, s6)) rfl ?_
  refine Rn_ev srt38 16 rfl rfl rfl (op_gfH3 h_hh) ?_
  refine Rn_sq srt38 17 1 (pc' := 38) (ls' := [some (.ref hh), some (.ref a1)]) (st' := [(.ref a1), (.ref (hh + 7))]) (h1 := (SH, s6)) rfl ?_
  refine Rn_ev srt38 18 rfl rfl rfl (op_gfH3 h_a1) ?_
  obtain ⟨s8, h7, hJ⟩ := m_b1 hJ
  refine Rn_call srt38 19 rfl rfl rfl ⟨Nat.le_of_ble_eq_true rfl, Nat.le_of_ble_eq_true rfl, (recv_T (isH_t h_hh 3 (by decide))), Nat.le_of_ble_eq_true rfl⟩ (k_X10_copyFrom (hh + 7) (a1 + 7) (d) (isH_t h_hh 3 (by decide)) (isH_t h_a1 3 (by decide)) h7) (show Rn N xs (d + 1) me38 44 [some (.ref hh), some (.ref a1)] [] (SH, s8) r from ?_)
  refine Rn_sq srt38 20 1 (pc' := 45) (ls' := [some (.ref hh), some (.ref a1)]) (st' := [(.ref hh)]) (h1 := (SH, s8)) rfl ?_
  refine Rn_ev srt38 21 rfl rfl rfl (op_gfH4 h_hh) ?_
  refine Rn_sq srt38 22 1 (pc' := 49) (ls' := [some (.ref hh), some (.ref a1)]) (st' := [(.ref a1), (.ref (hh + 9))]) (h1 := (SH, s8)) rfl ?_
  refine Rn_ev srt38 23 rfl rfl rfl (op_gfH4 h_a1) ?_
  obtain ⟨s10, h9, hJ⟩ := m_b1 hJ
  refine Rn_call srt38 24 rfl rfl rfl ⟨Nat.le_of_ble_eq_true rfl, Nat.le_of_ble_eq_true rfl, (recv_T (isH_t h_hh 4 (by decide))), Nat.le_of_ble_eq_true rfl⟩ (k_X10_copyFrom (hh + 9) (a1 + 9) (d) (isH_t h_hh 4 (by decide)) (isH_t h_a1 4 (by decide)) h9) (show Rn N xs (d + 1) me38 55 [some (.ref hh), some (.ref a1)] [] (SH, s10) r from ?_)
  refine Rn_sq srt38 25 1 (pc' := 56) (ls' := [some (.ref hh), some (.ref a1)]) (st' := [(.ref hh)]) (h1 := (SH, s10)) rfl ?_
  refine Rn_ev srt38 26 rfl rfl rfl (op_gfH5 h_hh) ?_
  refine Rn_sq srt38 27 1 (pc' := 60) (ls' := [some (.ref hh), some (.ref a1)]) (st' := [(.ref a1), (.ref (hh + 11))]) (h1 := (SH, s10)) rfl ?_
  refine Rn_ev srt38 28 rfl rfl rfl (op_gfH5 h_a1) ?_
  obtain ⟨s12, h11, hJ⟩ := m_b1 hJ
  refine Rn_call srt38 29 rfl rfl rfl ⟨Nat.le_of_ble_eq_true rfl, Nat.le_of_ble_eq_true rfl, (recv_T (isH_t h_hh 5 (by decide))), Nat.le_of_ble_eq_true rfl⟩ (k_X10_copyFrom (hh + 11) (a1 + 11) (d) (isH_t h_hh 5 (by decide)) (isH_t h_a1 5 (by decide)) h11) (show Rn N xs (d + 1) me38 66 [some (.ref hh), some (.ref a1)] [] (SH, s12) r from ?_)
  refine Rn_sq srt38 30 1 (pc' := 67) (ls' := [some (.ref hh), some (.ref a1)]) (st' := [(.ref hh)]) (h1 := (SH, s12)) rfl ?_
  refine Rn_ev srt38 31 rfl rfl rfl (op_gfH6 h_hh) ?_
  refine Rn_sq srt38 32 1 (pc' := 71) (ls' := [some (.ref hh), some (.ref a1)]) (st' := [(.ref a1), (.ref (hh + 13))]) (h1 := (SH, s12)) rfl ?_
  refine Rn_ev srt38 33 rfl rfl rfl (op_gfH6 h_a1) ?_
  obtain ⟨s14, h13, hJ⟩ := m_b1 hJ
  refine Rn_call srt38 34 rfl rfl rfl ⟨Nat.le_of_ble_eq_true rfl, Nat.le_of_ble_eq_true rfl, (recv_T (isH_t h_hh 6 (by decide))), Nat.le_of_ble_eq_true rfl⟩ (k_X10_copyFrom (hh + 13) (a1 + 13) (d) (isH_t h_hh 6 (by decide)) (isH_t h_a1 6 (by decide)) h13) (show Rn N xs (d + 1) me38 77 [some (.ref hh), some (.ref a1)] [] (SH, s14) r from ?_)
  refine Rn_sq srt38 35 1 (pc' := 78) (ls' := [some (.ref hh), some (.ref a1)]) (st' := [(.ref hh)]) (h1 := (SH, s14)) rfl ?_
  refine Rn_ev srt38 36 rfl rfl rfl (op_gfH7 h_hh) ?_
  refine Rn_sq srt38 37 1 (pc' := 82) (ls' := [some (.ref hh), some (.ref a1)]) (st' := [(.ref a1), (.ref (hh + 15))]) (h1 := (SH, s14)) rfl ?_
  refine Rn_ev srt38 38 rfl rfl rfl (op_gfH7 h_a1) ?_
  obtain ⟨s16, h15, hJ⟩ := m_b1 hJ
  refine Rn_call srt38 39 rfl rfl rfl ⟨Nat.le_of_ble_eq_true rfl, Nat.le_of_ble_eq_true rfl, (recv_T (isH_t h_hh 7 (by decide))), Nat.le_of_ble_eq_true rfl⟩ (k_X10_copyFrom (hh + 15) (a1 + 15) (d) (isH_t h_hh 7 (by decide)) (isH_t h_a1 7 (by decide)) h15) (show Rn N xs (d + 1) me38 88 [some (.ref hh), some (.ref a1)] [] (SH, s16) r from ?_)
  refine Rn_sq srt38 40 2 (pc' := 90) (ls' := [some (.ref hh), some (.ref a1)]) (st' := [(.ref a1), (.ref hh)]) (h1 := (SH, s16)) rfl ?_
  refine Rn_ev srt38 42 rfl rfl rfl (op_gfH8 h_a1) ?_
  extract_lets +onlyGivenNames s17 at hJ
  refine Rn_ev srt38 43 rfl rfl rfl (op_pfH8 h_hh) ?_
  refine Rn_sq srt38 44 2 (pc' := 98) (ls' := [some (.ref hh), some (.ref a1)]) (st' := [(.ref a1), (.ref hh)]) (h1 := (SH, s17)) rfl ?_
  refine Rn_ev srt38 46 rfl rfl rfl (op_gfH9 h_a1) ?_
  extract_lets +onlyGivenNames s18 at hJ
  refine Rn_ev srt38 47 rfl rfl rfl (op_pfH9 h_hh) ?_
  refine Rn_sq srt38 48 2 (pc' := 106) (ls' := [some (.ref hh), some (.ref a1)]) (st' := [(.ref a1), (.ref hh)]) (h1 := (SH, s18)) rfl ?_
  refine Rn_ev srt38 50 rfl rfl rfl (op_gfH10 h_a1) ?_
  extract_lets +onlyGivenNames s19 at hJ
  refine Rn_ev srt38 51 rfl rfl rfl (op_pfH10 h_hh) ?_
  refine Rn_sq srt38 52 2 (pc' := 114) (ls' := [some (.ref hh), some (.ref a1)]) (st' := [(.ref a1), (.ref hh)]) (h1 := (SH, s19)) rfl ?_
  refine Rn_ev srt38 54 rfl rfl rfl (op_gfH11 h_a1) ?_
  extract_lets +onlyGivenNames s20 at hJ
  refine Rn_ev srt38 55 rfl rfl rfl (op_pfH11 h_hh) ?_
  rw [← Option.some.inj hJ] at hC
  have hC : r = (none, (SH, s20)) := hC
  subst hC
  exact Rn_ret srt38 56 rfl rfl rfl
theorem k_X2_copyFrom {N : Nat} {xs : Nat → Int32} (hh : Nat) (a1 : Nat) (d : Nat) (h_hh : isH hh) (h_a1 : isH a1) {s : mG} {τ : (mG)} (hJ : F_X2_copyFrom hh a1 s = some τ) : Rn N xs (d + 1) me38 0 [some (.ref hh), some (.ref a1)] [] (SH, s) (none, (SH, τ)) := k_X2_copyFrom_r hh a1 d h_hh h_a1 hJ rfl
/-! IsHeIn$House.forgetSeenOf(I)V -/
theorem srt41 : m_srt mc41 = true := by decide +kernel
def C_X2_forgetSeenOf_2 (N : Nat) (xs : Nat → Int32) (hh : Nat) (d : Nat) (r : Option Value × mH) (C : (mG) → Prop) : ((Int32 × Int32 × mG) ⊕ (mG)) → Prop
  | .inl v => Rn N xs (d + 1) me41 2 [some (.ref hh), some (.int v.1), some (.int v.2.1)] [] (SH, v.2.2) r
  | .inr a => C a
def F_X2_forgetSeenOf_B2 (hh : Nat) (x1 : Int32) (x2 : Int32) (s : mG) : Option ((Int32 × Int32 × mG) ⊕ (mG)) :=
  if (c8 6) ≤ x2 then
    some (Sum.inr s)
  else
    b1 (F_X10_put (hh + 1) x1 ((ci 5) + x2) (ci (-1)) s) fun s3 =>
    some (Sum.inl (x1, (x2 + ci 1), s3))
set_option maxRecDepth 4000 in
theorem k_X2_forgetSeenOf_B2 {N : Nat} {xs : Nat → Int32} (hh : Nat) (d : Nat) (h_hh : isH hh) {r : Option Value × mH} {s : mG} {x1 : Int32} {x2 : Int32} {τ : ((Int32 × Int32 × mG) ⊕ (mG))} (hJ : F_X2_forgetSeenOf_B2 hh x1 x2 s = some τ) (hC : (C_X2_forgetSeenOf_2 N xs hh d r (fun τ => r = (none, (SH, τ)))) τ) : Rn N xs (d + 1) me41 2 [some (.ref hh), some (.int x1), some (.int x2)] [] (SH, s) r := by
  unfold F_X2_forgetSeenOf_B2 at hJ
  refine Rn_sq srt41 2 3 (pc' := (if (c8 6) ≤ x2 then 26 else 8)) (ls' := [some (.ref hh), some (.int x1), some (.int x2)]) (st' := []) (h1 := (SH, s)) rfl (Rn_if (fun h1 => ?_) (fun h1 => ?_))
  · replace hJ := m_ifp h1 hJ
    rw [← Option.some.inj hJ] at hC
    have hC : r = (none, (SH, s)) := hC
    subst hC
    exact Rn_ret srt41 15 rfl rfl rfl
  · replace hJ := m_ifn h1 hJ
    refine Rn_sq srt41 5 1 (pc' := 9) (ls' := [some (.ref hh), some (.int x1), some (.int x2)]) (st' := [(.ref hh)]) (h1 := (SH, s)) rfl ?_
    refine Rn_ev srt41 6 rfl rfl rfl (op_gfH0 h_hh) ?_
    refine Rn_sq srt41 7 5 (pc' := 17) (ls' := [some (.ref hh), some (.int x1), some (.int x2)]) (st' := [(.int (ci (-1))), (.int ((ci 5) + x2)), (.int x1), (.ref (hh + 1))]) (h1 := (SH, s)) rfl ?_
    obtain ⟨s3, h2, hJ⟩ := m_b1 hJ
    refine Rn_call srt41 12 rfl rfl rfl ⟨Nat.le_of_ble_eq_true rfl, Nat.le_of_ble_eq_true rfl, (recv_T (isH_t h_hh 0 (by decide))), Nat.le_of_ble_eq_true rfl⟩ (k_X10_put (hh + 1) (d) (isH_t h_hh 0 (by decide)) h2) (show Rn N xs (d + 1) me41 20 [some (.ref hh), some (.int x1), some (.int x2)] [] (SH, s3) r from ?_)
    refine Rn_sq srt41 13 2 (pc' := 2) (ls' := [some (.ref hh), some (.int x1), some (.int (x2 + ci 1))]) (st' := []) (h1 := (SH, s3)) rfl ?_
    rw [← Option.some.inj hJ] at hC
    exact hC
def F_X2_forgetSeenOf_L2 (hh : Nat) (x1 : Int32) (x2 : Int32) (s : mG) : Option (mG) := whl (fun (v : (Int32 × Int32 × mG)) => F_X2_forgetSeenOf_B2 hh v.1 v.2.1 v.2.2) (x1, x2, s)
theorem k_X2_forgetSeenOf_L2 {N : Nat} {xs : Nat → Int32} (hh : Nat) (d : Nat) (h_hh : isH hh) {r : Option Value × mH} {s : mG} {x1 : Int32} {x2 : Int32} {τ : (mG)} (hJ : F_X2_forgetSeenOf_L2 hh x1 x2 s = some τ) (hC : (fun τ => r = (none, (SH, τ))) τ) : Rn N xs (d + 1) me41 2 [some (.ref hh), some (.int x1), some (.int x2)] [] (SH, s) r :=
  whl_link (P := fun (v : (Int32 × Int32 × mG)) => Rn N xs (d + 1) me41 2 [some (.ref hh), some (.int v.1), some (.int v.2.1)] [] (SH, v.2.2) r) (C := (C_X2_forgetSeenOf_2 N xs hh d r (fun τ => r = (none, (SH, τ))))) (fun v τ h1 h2 => k_X2_forgetSeenOf_B2 hh d h_hh h1 h2) (fun _ h => h) (fun _ h => h) _ _ hJ hC
def F_X2_forgetSeenOf (hh : Nat) (a1 : Int32) (s : mG) : Option (mG) :=
  F_X2_forgetSeenOf_L2 hh a1 (ci 0) s
set_option maxRecDepth 4000 in
theorem k_X2_forgetSeenOf_r {N : Nat} {xs : Nat → Int32} (hh : Nat) (d : Nat) (h_hh : isH hh) {r : Option Value × mH} {s : mG} {a1 : Int32} {τ : (mG)} (hJ : F_X2_forgetSeenOf hh a1 s = some τ) (hC : (fun τ => r = (none, (SH, τ))) τ) : Rn N xs (d + 1) me41 0 [some (.ref hh), some (.int a1), none] [] (SH, s) r := by
  unfold F_X2_forgetSeenOf at hJ
  refine Rn_sq srt41 0 2 (pc' := 2) (ls' := [some (.ref hh), some (.int a1), some (.int (ci 0))]) (st' := []) (h1 := (SH, s)) rfl ?_
  exact (k_X2_forgetSeenOf_L2 hh d h_hh hJ hC)
theorem k_X2_forgetSeenOf {N : Nat} {xs : Nat → Int32} (hh : Nat) (d : Nat) (h_hh : isH hh) {s : mG} {a1 : Int32} {τ : (mG)} (hJ : F_X2_forgetSeenOf hh a1 s = some τ) : Rn N xs (d + 1) me41 0 [some (.ref hh), some (.int a1), none] [] (SH, s) (none, (SH, τ)) := k_X2_forgetSeenOf_r hh d h_hh hJ rfl
/-! IsHeIn$House.addGuest(II)I -/
theorem srt39 : m_srt mc39 = true := by decide +kernel
def F_X2_addGuest (hh : Nat) (a1 : Int32) (a2 : Int32) (s : mG) : Option (Int32 × mG) :=
  b2 (F_X10_add (hh + 1) s) fun v3 s2 =>
  b1 (F_X10_put (hh + 1) v3 (ci 0) a1 s2) fun s5 =>
  b1 (F_X10_put (hh + 1) v3 (ci 1) a2 s5) fun s7 =>
  b1 (F_X10_put (hh + 1) v3 (ci 2) (ci 0) s7) fun s9 =>
  b1 (F_X10_put (hh + 1) v3 (ci 3) (ci (-1)) s9) fun s11 =>
  b1 (F_X10_put (hh + 1) v3 (ci 4) (ci 0) s11) fun s13 =>
  b1 (F_X2_forgetSeenOf hh v3 s13) fun s15 =>
  some (v3, s15)
set_option maxRecDepth 4000 in
theorem k_X2_addGuest_r {N : Nat} {xs : Nat → Int32} (hh : Nat) (d : Nat) (h_hh : isH hh) {r : Option Value × mH} {s : mG} {a1 : Int32} {a2 : Int32} {τ : (Int32 × mG)} (hJ : F_X2_addGuest hh a1 a2 s = some τ) (hC : (fun τ => r = (some (.int τ.1), (SH, τ.2))) τ) : Rn N xs (d + 2) me39 0 [some (.ref hh), some (.int a1), some (.int a2), none] [] (SH, s) r := by
  unfold F_X2_addGuest at hJ
  refine Rn_sq srt39 0 1 (pc' := 1) (ls' := [some (.ref hh), some (.int a1), some (.int a2), none]) (st' := [(.ref hh)]) (h1 := (SH, s)) rfl ?_
  refine Rn_ev srt39 1 rfl rfl rfl (op_gfH0 h_hh) ?_
  obtain ⟨v3, s2, h1, hJ⟩ := m_b2 hJ
  refine Rn_call srt39 2 rfl rfl rfl ⟨Nat.le_of_ble_eq_true rfl, Nat.le_of_ble_eq_true rfl, (recv_T (isH_t h_hh 0 (by decide))), Nat.le_of_ble_eq_true rfl⟩ (k_X10_add (hh + 1) (d) (isH_t h_hh 0 (by decide)) h1) (show Rn N xs (d + 2) me39 7 [some (.ref hh), some (.int a1), some (.int a2), none] [(.int v3)] (SH, s2) r from ?_)
  refine Rn_sq srt39 3 2 (pc' := 9) (ls' := [some (.ref hh), some (.int a1), some (.int a2), some (.int v3)]) (st' := [(.ref hh)]) (h1 := (SH, s2)) rfl ?_
  refine Rn_ev srt39 5 rfl rfl rfl (op_gfH0 h_hh) ?_
  refine Rn_sq srt39 6 3 (pc' := 15) (ls' := [some (.ref hh), some (.int a1), some (.int a2), some (.int v3)]) (st' := [(.int a1), (.int (ci 0)), (.int v3), (.ref (hh + 1))]) (h1 := (SH, s2)) rfl ?_
  obtain ⟨s5, h4, hJ⟩ := m_b1 hJ
  refine Rn_call srt39 9 rfl rfl rfl ⟨Nat.le_of_ble_eq_true rfl, Nat.le_of_ble_eq_true rfl, (recv_T (isH_t h_hh 0 (by decide))), Nat.le_of_ble_eq_true rfl⟩ (k_X10_put (hh + 1) (d + 1) (isH_t h_hh 0 (by decide)) h4) (show Rn N xs (d + 2) me39 18 [some (.ref hh), some (.int a1), some (.int a2), some (.int v3)] [] (SH, s5) r from ?_)
  refine Rn_sq srt39 10 1 (pc' := 19) (ls' := [some (.ref hh), some (.int a1), some (.int a2), some (.int v3)]) (st' := [(.ref hh)]) (h1 := (SH, s5)) rfl ?_
  refine Rn_ev srt39 11 rfl rfl rfl (op_gfH0 h_hh) ?_
  refine Rn_sq srt39 12 3 (pc' := 25) (ls' := [some (.ref hh), some (.int a1), some (.int a2), some (.int v3)]) (st' := [(.int a2), (.int (ci 1)), (.int v3), (.ref (hh + 1))]) (h1 := (SH, s5)) rfl ?_
  obtain ⟨s7, h6, hJ⟩ := m_b1 hJ
  refine Rn_call srt39 15 rfl rfl rfl ⟨Nat.le_of_ble_eq_true rfl, Nat.le_of_ble_eq_true rfl, (recv_T (isH_t h_hh 0 (by decide))), Nat.le_of_ble_eq_true rfl⟩ (k_X10_put (hh + 1) (d + 1) (isH_t h_hh 0 (by decide)) h6) (show Rn N xs (d + 2) me39 28 [some (.ref hh), some (.int a1), some (.int a2), some (.int v3)] [] (SH, s7) r from ?_)
  refine Rn_sq srt39 16 1 (pc' := 29) (ls' := [some (.ref hh), some (.int a1), some (.int a2), some (.int v3)]) (st' := [(.ref hh)]) (h1 := (SH, s7)) rfl ?_
  refine Rn_ev srt39 17 rfl rfl rfl (op_gfH0 h_hh) ?_
  refine Rn_sq srt39 18 3 (pc' := 35) (ls' := [some (.ref hh), some (.int a1), some (.int a2), some (.int v3)]) (st' := [(.int (ci 0)), (.int (ci 2)), (.int v3), (.ref (hh + 1))]) (h1 := (SH, s7)) rfl ?_
  obtain ⟨s9, h8, hJ⟩ := m_b1 hJ
  refine Rn_call srt39 21 rfl rfl rfl ⟨Nat.le_of_ble_eq_true rfl, Nat.le_of_ble_eq_true rfl, (recv_T (isH_t h_hh 0 (by decide))), Nat.le_of_ble_eq_true rfl⟩ (k_X10_put (hh + 1) (d + 1) (isH_t h_hh 0 (by decide)) h8) (show Rn N xs (d + 2) me39 38 [some (.ref hh), some (.int a1), some (.int a2), some (.int v3)] [] (SH, s9) r from ?_)
  refine Rn_sq srt39 22 1 (pc' := 39) (ls' := [some (.ref hh), some (.int a1), some (.int a2), some (.int v3)]) (st' := [(.ref hh)]) (h1 := (SH, s9)) rfl ?_
  refine Rn_ev srt39 23 rfl rfl rfl (op_gfH0 h_hh) ?_
  refine Rn_sq srt39 24 3 (pc' := 45) (ls' := [some (.ref hh), some (.int a1), some (.int a2), some (.int v3)]) (st' := [(.int (ci (-1))), (.int (ci 3)), (.int v3), (.ref (hh + 1))]) (h1 := (SH, s9)) rfl ?_
  obtain ⟨s11, h10, hJ⟩ := m_b1 hJ
  refine Rn_call srt39 27 rfl rfl rfl ⟨Nat.le_of_ble_eq_true rfl, Nat.le_of_ble_eq_true rfl, (recv_T (isH_t h_hh 0 (by decide))), Nat.le_of_ble_eq_true rfl⟩ (k_X10_put (hh + 1) (d + 1) (isH_t h_hh 0 (by decide)) h10) (show Rn N xs (d + 2) me39 48 [some (.ref hh), some (.int a1), some (.int a2), some (.int v3)] [] (SH, s11) r from ?_)
  refine Rn_sq srt39 28 1 (pc' := 49) (ls' := [some (.ref hh), some (.int a1), some (.int a2), some (.int v3)]) (st' := [(.ref hh)]) (h1 := (SH, s11)) rfl ?_
  refine Rn_ev srt39 29 rfl rfl rfl (op_gfH0 h_hh) ?_
  refine Rn_sq srt39 30 3 (pc' := 55) (ls' := [some (.ref hh), some (.int a1), some (.int a2), some (.int v3)]) (st' := [(.int (ci 0)), (.int (ci 4)), (.int v3), (.ref (hh + 1))]) (h1 := (SH, s11)) rfl ?_
  obtain ⟨s13, h12, hJ⟩ := m_b1 hJ
  refine Rn_call srt39 33 rfl rfl rfl ⟨Nat.le_of_ble_eq_true rfl, Nat.le_of_ble_eq_true rfl, (recv_T (isH_t h_hh 0 (by decide))), Nat.le_of_ble_eq_true rfl⟩ (k_X10_put (hh + 1) (d + 1) (isH_t h_hh 0 (by decide)) h12) (show Rn N xs (d + 2) me39 58 [some (.ref hh), some (.int a1), some (.int a2), some (.int v3)] [] (SH, s13) r from ?_)
  refine Rn_sq srt39 34 2 (pc' := 60) (ls' := [some (.ref hh), some (.int a1), some (.int a2), some (.int v3)]) (st' := [(.int v3), (.ref hh)]) (h1 := (SH, s13)) rfl ?_
  obtain ⟨s15, h14, hJ⟩ := m_b1 hJ
  refine Rn_call srt39 36 rfl rfl rfl ⟨Nat.le_of_ble_eq_true rfl, Nat.le_of_ble_eq_true rfl, (recv_H h_hh), Nat.le_of_ble_eq_true rfl⟩ (k_X2_forgetSeenOf hh (d) h_hh h14) (show Rn N xs (d + 2) me39 63 [some (.ref hh), some (.int a1), some (.int a2), some (.int v3)] [] (SH, s15) r from ?_)
  refine Rn_sq srt39 37 1 (pc' := 64) (ls' := [some (.ref hh), some (.int a1), some (.int a2), some (.int v3)]) (st' := [(.int v3)]) (h1 := (SH, s15)) rfl ?_
  rw [← Option.some.inj hJ] at hC
  have hC : r = (some (.int v3), (SH, s15)) := hC
  subst hC
  exact Rn_ret srt39 38 rfl rfl rfl
theorem k_X2_addGuest {N : Nat} {xs : Nat → Int32} (hh : Nat) (d : Nat) (h_hh : isH hh) {s : mG} {a1 : Int32} {a2 : Int32} {τ : (Int32 × mG)} (hJ : F_X2_addGuest hh a1 a2 s = some τ) : Rn N xs (d + 2) me39 0 [some (.ref hh), some (.int a1), some (.int a2), none] [] (SH, s) (some (.int τ.1), (SH, τ.2)) := k_X2_addGuest_r hh d h_hh hJ rfl
/-! IsHeIn$House.forgetSeen()V -/
theorem srt40 : m_srt mc40 = true := by decide +kernel
def C_X2_forgetSeen_2 (N : Nat) (xs : Nat → Int32) (hh : Nat) (d : Nat) (r : Option Value × mH) (C : (mG) → Prop) : ((Int32 × mG) ⊕ (mG)) → Prop
  | .inl v => Rn N xs (d + 2) me40 2 [some (.ref hh), some (.int v.1)] [] (SH, v.2) r
  | .inr a => C a
def F_X2_forgetSeen_B2 (hh : Nat) (x1 : Int32) (s : mG) : Option ((Int32 × mG) ⊕ (mG)) :=
  if (s.1 (hh + 1) 3) ≤ x1 then
    some (Sum.inr s)
  else
    b1 (F_X2_forgetSeenOf hh x1 s) fun s3 =>
    some (Sum.inl ((x1 + ci 1), s3))
set_option maxRecDepth 4000 in
theorem k_X2_forgetSeen_B2 {N : Nat} {xs : Nat → Int32} (hh : Nat) (d : Nat) (h_hh : isH hh) {r : Option Value × mH} {s : mG} {x1 : Int32} {τ : ((Int32 × mG) ⊕ (mG))} (hJ : F_X2_forgetSeen_B2 hh x1 s = some τ) (hC : (C_X2_forgetSeen_2 N xs hh d r (fun τ => r = (none, (SH, τ)))) τ) : Rn N xs (d + 2) me40 2 [some (.ref hh), some (.int x1)] [] (SH, s) r := by
  unfold F_X2_forgetSeen_B2 at hJ
  refine Rn_sq srt40 2 2 (pc' := 4) (ls' := [some (.ref hh), some (.int x1)]) (st' := [(.ref hh), (.int x1)]) (h1 := (SH, s)) rfl ?_
  refine Rn_ev srt40 4 rfl rfl rfl (op_gfH0 h_hh) ?_
  refine Rn_ev srt40 5 rfl rfl rfl (op_gfT3 (isH_t h_hh 0 (by decide))) ?_
  refine Rn_sq srt40 6 1 (pc' := (if (s.1 (hh + 1) 3) ≤ x1 then 24 else 13)) (ls' := [some (.ref hh), some (.int x1)]) (st' := []) (h1 := (SH, s)) rfl (Rn_if (fun h1 => ?_) (fun h1 => ?_))
  · replace hJ := m_ifp h1 hJ
    rw [← Option.some.inj hJ] at hC
    have hC : r = (none, (SH, s)) := hC
    subst hC
    exact Rn_ret srt40 12 rfl rfl rfl
  · replace hJ := m_ifn h1 hJ
    refine Rn_sq srt40 7 2 (pc' := 15) (ls' := [some (.ref hh), some (.int x1)]) (st' := [(.int x1), (.ref hh)]) (h1 := (SH, s)) rfl ?_
    obtain ⟨s3, h2, hJ⟩ := m_b1 hJ
    refine Rn_call srt40 9 rfl rfl rfl ⟨Nat.le_of_ble_eq_true rfl, Nat.le_of_ble_eq_true rfl, (recv_H h_hh), Nat.le_of_ble_eq_true rfl⟩ (k_X2_forgetSeenOf hh (d) h_hh h2) (show Rn N xs (d + 2) me40 18 [some (.ref hh), some (.int x1)] [] (SH, s3) r from ?_)
    refine Rn_sq srt40 10 2 (pc' := 2) (ls' := [some (.ref hh), some (.int (x1 + ci 1))]) (st' := []) (h1 := (SH, s3)) rfl ?_
    rw [← Option.some.inj hJ] at hC
    exact hC
def F_X2_forgetSeen_L2 (hh : Nat) (x1 : Int32) (s : mG) : Option (mG) := whl (fun (v : (Int32 × mG)) => F_X2_forgetSeen_B2 hh v.1 v.2) (x1, s)
theorem k_X2_forgetSeen_L2 {N : Nat} {xs : Nat → Int32} (hh : Nat) (d : Nat) (h_hh : isH hh) {r : Option Value × mH} {s : mG} {x1 : Int32} {τ : (mG)} (hJ : F_X2_forgetSeen_L2 hh x1 s = some τ) (hC : (fun τ => r = (none, (SH, τ))) τ) : Rn N xs (d + 2) me40 2 [some (.ref hh), some (.int x1)] [] (SH, s) r :=
  whl_link (P := fun (v : (Int32 × mG)) => Rn N xs (d + 2) me40 2 [some (.ref hh), some (.int v.1)] [] (SH, v.2) r) (C := (C_X2_forgetSeen_2 N xs hh d r (fun τ => r = (none, (SH, τ))))) (fun v τ h1 h2 => k_X2_forgetSeen_B2 hh d h_hh h1 h2) (fun _ h => h) (fun _ h => h) _ _ hJ hC
def F_X2_forgetSeen (hh : Nat) (s : mG) : Option (mG) :=
  F_X2_forgetSeen_L2 hh (ci 0) s
set_option maxRecDepth 4000 in
theorem k_X2_forgetSeen_r {N : Nat} {xs : Nat → Int32} (hh : Nat) (d : Nat) (h_hh : isH hh) {r : Option Value × mH} {s : mG} {τ : (mG)} (hJ : F_X2_forgetSeen hh s = some τ) (hC : (fun τ => r = (none, (SH, τ))) τ) : Rn N xs (d + 2) me40 0 [some (.ref hh), none] [] (SH, s) r := by
  unfold F_X2_forgetSeen at hJ
  refine Rn_sq srt40 0 2 (pc' := 2) (ls' := [some (.ref hh), some (.int (ci 0))]) (st' := []) (h1 := (SH, s)) rfl ?_
  exact (k_X2_forgetSeen_L2 hh d h_hh hJ hC)
theorem k_X2_forgetSeen {N : Nat} {xs : Nat → Int32} (hh : Nat) (d : Nat) (h_hh : isH hh) {s : mG} {τ : (mG)} (hJ : F_X2_forgetSeen hh s = some τ) : Rn N xs (d + 2) me40 0 [some (.ref hh), none] [] (SH, s) (none, (SH, τ)) := k_X2_forgetSeen_r hh d h_hh hJ rfl
/-! IsHeIn$Table.hasRow(I)Z -/
theorem srt131 : m_srt mc131 = true := by decide +kernel
def F_X10_hasRow_16 (t : Nat) (s : mG) : Option (Int32) :=
  some (ci 0)
set_option maxRecDepth 4000 in
theorem k_X10_hasRow_16 {N : Nat} {xs : Nat → Int32} (t : Nat) (d : Nat) (h_t : isT t) {r : Option Value × mH} {s : mG} {τ : (Int32)} (hJ : F_X10_hasRow_16 t s = some τ) (hC : (fun τ => r = (some (.int τ), (SH, s))) τ) : Rn N xs (d + 0) me131 16 [none, none] [] (SH, s) r := by
  unfold F_X10_hasRow_16 at hJ
  refine Rn_sq srt131 8 1 (pc' := 17) (ls' := [none, none]) (st' := [(.int (ci 0))]) (h1 := (SH, s)) rfl ?_
  rw [← Option.some.inj hJ] at hC
  have hC : r = (some (.int (ci 0)), (SH, s)) := hC
  subst hC
  exact Rn_ret srt131 9 rfl rfl (m_ret_b rfl (by decide))
def F_X10_hasRow (t : Nat) (s : mG) (a1 : Int32) : Option (Int32) :=
  if a1 < 0 then
    F_X10_hasRow_16 t s
  else
    if (s.1 t 3) ≤ a1 then
      F_X10_hasRow_16 t s
    else
      some (ci 1)
set_option maxRecDepth 4000 in
theorem k_X10_hasRow_r {N : Nat} {xs : Nat → Int32} (t : Nat) (d : Nat) (h_t : isT t) {r : Option Value × mH} {s : mG} {a1 : Int32} {τ : (Int32)} (hJ : F_X10_hasRow t s a1 = some τ) (hC : (fun τ => r = (some (.int τ), (SH, s))) τ) : Rn N xs (d + 0) me131 0 [some (.ref t), some (.int a1)] [] (SH, s) r := by
  unfold F_X10_hasRow at hJ
  refine Rn_sq srt131 0 2 (pc' := (if a1 < 0 then 16 else 4)) (ls' := [some (.ref t), some (.int a1)]) (st' := []) (h1 := (SH, s)) rfl (Rn_if (fun h1 => ?_) (fun h1 => ?_))
  · replace hJ := m_ifp h1 hJ
    exact Rn_weaken (a := [none, none]) (b := [some (.ref t), some (.int a1)]) trivial rfl (k_X10_hasRow_16 t d h_t hJ hC)
  · replace hJ := m_ifn h1 hJ
    refine Rn_sq srt131 2 2 (pc' := 6) (ls' := [some (.ref t), some (.int a1)]) (st' := [(.ref t), (.int a1)]) (h1 := (SH, s)) rfl ?_
    refine Rn_ev srt131 4 rfl rfl rfl (op_gfT3 h_t) ?_
    refine Rn_sq srt131 5 1 (pc' := (if (s.1 t 3) ≤ a1 then 16 else 12)) (ls' := [some (.ref t), some (.int a1)]) (st' := []) (h1 := (SH, s)) rfl (Rn_if (fun h2 => ?_) (fun h2 => ?_))
    · replace hJ := m_ifp h2 hJ
      exact Rn_weaken (a := [none, none]) (b := [some (.ref t), some (.int a1)]) trivial rfl (k_X10_hasRow_16 t d h_t hJ hC)
    · replace hJ := m_ifn h2 hJ
      refine Rn_sq srt131 6 2 (pc' := 17) (ls' := [some (.ref t), some (.int a1)]) (st' := [(.int (ci 1))]) (h1 := (SH, s)) rfl ?_
      rw [← Option.some.inj hJ] at hC
      have hC : r = (some (.int (ci 1)), (SH, s)) := hC
      subst hC
      exact Rn_ret srt131 9 rfl rfl (m_ret_b rfl (by decide))
theorem k_X10_hasRow {N : Nat} {xs : Nat → Int32} (t : Nat) (d : Nat) (h_t : isT t) {s : mG} {a1 : Int32} {τ : (Int32)} (hJ : F_X10_hasRow t s a1 = some τ) : Rn N xs (d + 0) me131 0 [some (.ref t), some (.int a1)] [] (SH, s) (some (.int τ), (SH, s)) := k_X10_hasRow_r t d h_t hJ rfl
/-! IsHeIn$House.isGuest(I)Z -/
theorem srt42 : m_srt mc42 = true := by decide +kernel
def F_X2_isGuest (hh : Nat) (s : mG) (a1 : Int32) : Option (Int32) :=
  b1 (F_X10_hasRow (hh + 1) s a1) fun v2 =>
  if v2 = 0 ∨ v2 = 1 then
    some v2
  else none
set_option maxRecDepth 4000 in
theorem k_X2_isGuest_r {N : Nat} {xs : Nat → Int32} (hh : Nat) (d : Nat) (h_hh : isH hh) {r : Option Value × mH} {s : mG} {a1 : Int32} {τ : (Int32)} (hJ : F_X2_isGuest hh s a1 = some τ) (hC : (fun τ => r = (some (.int τ), (SH, s))) τ) : Rn N xs (d + 1) me42 0 [some (.ref hh), some (.int a1)] [] (SH, s) r := by
  unfold F_X2_isGuest at hJ
  refine Rn_sq srt42 0 1 (pc' := 1) (ls' := [some (.ref hh), some (.int a1)]) (st' := [(.ref hh)]) (h1 := (SH, s)) rfl ?_
  refine Rn_ev srt42 1 rfl rfl rfl (op_gfH0 h_hh) ?_
  refine Rn_sq srt42 2 1 (pc' := 5) (ls' := [some (.ref hh), some (.int a1)]) (st' := [(.int a1), (.ref (hh + 1))]) (h1 := (SH, s)) rfl ?_
  obtain ⟨v2, h1, hJ⟩ := m_b1 hJ
  refine Rn_call srt42 3 rfl rfl rfl ⟨Nat.le_of_ble_eq_true rfl, Nat.le_of_ble_eq_true rfl, (recv_T (isH_t h_hh 0 (by decide))), Nat.le_of_ble_eq_true rfl⟩ (k_X10_hasRow (hh + 1) (d) (isH_t h_hh 0 (by decide)) h1) (show Rn N xs (d + 1) me42 8 [some (.ref hh), some (.int a1)] [(.int v2)] (SH, s) r from ?_)
  obtain ⟨h3, hJ⟩ := m_gp hJ
  rw [← Option.some.inj hJ] at hC
  have hC : r = (some (.int v2), (SH, s)) := hC
  subst hC
  exact Rn_ret srt42 4 rfl rfl (m_ret_b rfl h3)
theorem k_X2_isGuest {N : Nat} {xs : Nat → Int32} (hh : Nat) (d : Nat) (h_hh : isH hh) {s : mG} {a1 : Int32} {τ : (Int32)} (hJ : F_X2_isGuest hh s a1 = some τ) : Rn N xs (d + 1) me42 0 [some (.ref hh), some (.int a1)] [] (SH, s) (some (.int τ), (SH, s)) := k_X2_isGuest_r hh d h_hh hJ rfl
/-! IsHeIn$House.isSign(I)Z -/
theorem srt43 : m_srt mc43 = true := by decide +kernel
def F_X2_isSign (hh : Nat) (s : mG) (a1 : Int32) : Option (Int32) :=
  b1 (F_X10_hasRow (hh + 9) s a1) fun v2 =>
  if v2 = 0 ∨ v2 = 1 then
    some v2
  else none
set_option maxRecDepth 4000 in
theorem k_X2_isSign_r {N : Nat} {xs : Nat → Int32} (hh : Nat) (d : Nat) (h_hh : isH hh) {r : Option Value × mH} {s : mG} {a1 : Int32} {τ : (Int32)} (hJ : F_X2_isSign hh s a1 = some τ) (hC : (fun τ => r = (some (.int τ), (SH, s))) τ) : Rn N xs (d + 1) me43 0 [some (.ref hh), some (.int a1)] [] (SH, s) r := by
  unfold F_X2_isSign at hJ
  refine Rn_sq srt43 0 1 (pc' := 1) (ls' := [some (.ref hh), some (.int a1)]) (st' := [(.ref hh)]) (h1 := (SH, s)) rfl ?_
  refine Rn_ev srt43 1 rfl rfl rfl (op_gfH4 h_hh) ?_
  refine Rn_sq srt43 2 1 (pc' := 5) (ls' := [some (.ref hh), some (.int a1)]) (st' := [(.int a1), (.ref (hh + 9))]) (h1 := (SH, s)) rfl ?_
  obtain ⟨v2, h1, hJ⟩ := m_b1 hJ
  refine Rn_call srt43 3 rfl rfl rfl ⟨Nat.le_of_ble_eq_true rfl, Nat.le_of_ble_eq_true rfl, (recv_T (isH_t h_hh 4 (by decide))), Nat.le_of_ble_eq_true rfl⟩ (k_X10_hasRow (hh + 9) (d) (isH_t h_hh 4 (by decide)) h1) (show Rn N xs (d + 1) me43 8 [some (.ref hh), some (.int a1)] [(.int v2)] (SH, s) r from ?_)
  obtain ⟨h3, hJ⟩ := m_gp hJ
  rw [← Option.some.inj hJ] at hC
  have hC : r = (some (.int v2), (SH, s)) := hC
  subst hC
  exact Rn_ret srt43 4 rfl rfl (m_ret_b rfl h3)
theorem k_X2_isSign {N : Nat} {xs : Nat → Int32} (hh : Nat) (d : Nat) (h_hh : isH hh) {s : mG} {a1 : Int32} {τ : (Int32)} (hJ : F_X2_isSign hh s a1 = some τ) : Rn N xs (d + 1) me43 0 [some (.ref hh), some (.int a1)] [] (SH, s) (some (.int τ), (SH, s)) := k_X2_isSign_r hh d h_hh hJ rfl
/-! IsHeIn$House.keyOn(I)I -/
theorem srt45 : m_srt mc45 = true := by decide +kernel
def C_X2_keyOn_2 (N : Nat) (xs : Nat → Int32) (hh : Nat) (s : mG) (d : Nat) (r : Option Value × mH) (C : (Int32) → Prop) : ((Int32 × Int32) ⊕ (Int32)) → Prop
  | .inl v => Rn N xs (d + 1) me45 2 [some (.ref hh), some (.int v.1), some (.int v.2)] [] (SH, s) r
  | .inr a => C a
def F_X2_keyOn_B2 (hh : Nat) (s : mG) (x1 : Int32) (x2 : Int32) : Option ((Int32 × Int32) ⊕ (Int32)) :=
  if (s.1 (hh + 1) 3) ≤ x2 then
    some (Sum.inr (ci (-1)))
  else
    b1 (F_X10_at (hh + 1) s x2 (ci 3)) fun v3 =>
    if v3 = x1 then
      some (Sum.inr x2)
    else
      some (Sum.inl (x1, (x2 + ci 1)))
set_option maxRecDepth 4000 in
theorem k_X2_keyOn_B2 {N : Nat} {xs : Nat → Int32} (hh : Nat) (d : Nat) (h_hh : isH hh) {r : Option Value × mH} {s : mG} {x1 : Int32} {x2 : Int32} {τ : ((Int32 × Int32) ⊕ (Int32))} (hJ : F_X2_keyOn_B2 hh s x1 x2 = some τ) (hC : (C_X2_keyOn_2 N xs hh s d r (fun τ => r = (some (.int τ), (SH, s)))) τ) : Rn N xs (d + 1) me45 2 [some (.ref hh), some (.int x1), some (.int x2)] [] (SH, s) r := by
  unfold F_X2_keyOn_B2 at hJ
  refine Rn_sq srt45 2 2 (pc' := 4) (ls' := [some (.ref hh), some (.int x1), some (.int x2)]) (st' := [(.ref hh), (.int x2)]) (h1 := (SH, s)) rfl ?_
  refine Rn_ev srt45 4 rfl rfl rfl (op_gfH0 h_hh) ?_
  refine Rn_ev srt45 5 rfl rfl rfl (op_gfT3 (isH_t h_hh 0 (by decide))) ?_
  refine Rn_sq srt45 6 1 (pc' := (if (s.1 (hh + 1) 3) ≤ x2 then 34 else 13)) (ls' := [some (.ref hh), some (.int x1), some (.int x2)]) (st' := []) (h1 := (SH, s)) rfl (Rn_if (fun h1 => ?_) (fun h1 => ?_))
  · replace hJ := m_ifp h1 hJ
    refine Rn_sq srt45 18 1 (pc' := 35) (ls' := [some (.ref hh), some (.int x1), some (.int x2)]) (st' := [(.int (ci (-1)))]) (h1 := (SH, s)) rfl ?_
    rw [← Option.some.inj hJ] at hC
    have hC : r = (some (.int (ci (-1))), (SH, s)) := hC
    subst hC
    exact Rn_ret srt45 19 rfl rfl rfl
  · replace hJ := m_ifn h1 hJ
    refine Rn_sq srt45 7 1 (pc' := 14) (ls' := [some (.ref hh), some (.int x1), some (.int x2)]) (st' := [(.ref hh)]) (h1 := (SH, s)) rfl ?_
    refine Rn_ev srt45 8 rfl rfl rfl (op_gfH0 h_hh) ?_
    refine Rn_sq srt45 9 2 (pc' := 19) (ls' := [some (.ref hh), some (.int x1), some (.int x2)]) (st' := [(.int (ci 3)), (.int x2), (.ref (hh + 1))]) (h1 := (SH, s)) rfl ?_
    obtain ⟨v3, h2, hJ⟩ := m_b1 hJ
    refine Rn_call srt45 11 rfl rfl rfl ⟨Nat.le_of_ble_eq_true rfl, Nat.le_of_ble_eq_true rfl, (recv_T (isH_t h_hh 0 (by decide))), Nat.le_of_ble_eq_true rfl⟩ (k_X10_at (hh + 1) (d) (isH_t h_hh 0 (by decide)) h2) (show Rn N xs (d + 1) me45 22 [some (.ref hh), some (.int x1), some (.int x2)] [(.int v3)] (SH, s) r from ?_)
    refine Rn_sq srt45 12 2 (pc' := (if v3 = x1 then 26 else 28)) (ls' := [some (.ref hh), some (.int x1), some (.int x2)]) (st' := []) (h1 := (SH, s)) rfl (Rn_if (fun h4 => ?_) (fun h4 => ?_))
    · replace hJ := m_ifp h4 hJ
      refine Rn_sq srt45 14 1 (pc' := 27) (ls' := [some (.ref hh), some (.int x1), some (.int x2)]) (st' := [(.int x2)]) (h1 := (SH, s)) rfl ?_
      rw [← Option.some.inj hJ] at hC
      have hC : r = (some (.int x2), (SH, s)) := hC
      subst hC
      exact Rn_ret srt45 15 rfl rfl rfl
    · replace hJ := m_ifn h4 hJ
      refine Rn_sq srt45 16 2 (pc' := 2) (ls' := [some (.ref hh), some (.int x1), some (.int (x2 + ci 1))]) (st' := []) (h1 := (SH, s)) rfl ?_
      rw [← Option.some.inj hJ] at hC
      exact hC
def F_X2_keyOn_L2 (hh : Nat) (s : mG) (x1 : Int32) (x2 : Int32) : Option (Int32) := whl (fun (v : (Int32 × Int32)) => F_X2_keyOn_B2 hh s v.1 v.2) (x1, x2)
theorem k_X2_keyOn_L2 {N : Nat} {xs : Nat → Int32} (hh : Nat) (d : Nat) (h_hh : isH hh) {r : Option Value × mH} {s : mG} {x1 : Int32} {x2 : Int32} {τ : (Int32)} (hJ : F_X2_keyOn_L2 hh s x1 x2 = some τ) (hC : (fun τ => r = (some (.int τ), (SH, s))) τ) : Rn N xs (d + 1) me45 2 [some (.ref hh), some (.int x1), some (.int x2)] [] (SH, s) r :=
  whl_link (P := fun (v : (Int32 × Int32)) => Rn N xs (d + 1) me45 2 [some (.ref hh), some (.int v.1), some (.int v.2)] [] (SH, s) r) (C := (C_X2_keyOn_2 N xs hh s d r (fun τ => r = (some (.int τ), (SH, s))))) (fun v τ h1 h2 => k_X2_keyOn_B2 hh d h_hh h1 h2) (fun _ h => h) (fun _ h => h) _ _ hJ hC
def F_X2_keyOn (hh : Nat) (s : mG) (a1 : Int32) : Option (Int32) :=
  F_X2_keyOn_L2 hh s a1 (ci 0)
set_option maxRecDepth 4000 in
theorem k_X2_keyOn_r {N : Nat} {xs : Nat → Int32} (hh : Nat) (d : Nat) (h_hh : isH hh) {r : Option Value × mH} {s : mG} {a1 : Int32} {τ : (Int32)} (hJ : F_X2_keyOn hh s a1 = some τ) (hC : (fun τ => r = (some (.int τ), (SH, s))) τ) : Rn N xs (d + 1) me45 0 [some (.ref hh), some (.int a1), none] [] (SH, s) r := by
  unfold F_X2_keyOn at hJ
  refine Rn_sq srt45 0 2 (pc' := 2) (ls' := [some (.ref hh), some (.int a1), some (.int (ci 0))]) (st' := []) (h1 := (SH, s)) rfl ?_
  exact (k_X2_keyOn_L2 hh d h_hh hJ hC)
theorem k_X2_keyOn {N : Nat} {xs : Nat → Int32} (hh : Nat) (d : Nat) (h_hh : isH hh) {s : mG} {a1 : Int32} {τ : (Int32)} (hJ : F_X2_keyOn hh s a1 = some τ) : Rn N xs (d + 1) me45 0 [some (.ref hh), some (.int a1), none] [] (SH, s) (some (.int τ), (SH, s)) := k_X2_keyOn_r hh d h_hh hJ rfl
/-! IsHeIn$House.hasKey(I)Z -/
theorem srt46 : m_srt mc46 = true := by decide +kernel
def F_X2_hasKey (hh : Nat) (s : mG) (a1 : Int32) : Option (Int32) :=
  b1 (F_X2_keyOn hh s a1) fun v2 =>
  if v2 = (ci (-1)) then
    some (ci 0)
  else
    some (ci 1)
set_option maxRecDepth 4000 in
theorem k_X2_hasKey_r {N : Nat} {xs : Nat → Int32} (hh : Nat) (d : Nat) (h_hh : isH hh) {r : Option Value × mH} {s : mG} {a1 : Int32} {τ : (Int32)} (hJ : F_X2_hasKey hh s a1 = some τ) (hC : (fun τ => r = (some (.int τ), (SH, s))) τ) : Rn N xs (d + 2) me46 0 [some (.ref hh), some (.int a1)] [] (SH, s) r := by
  unfold F_X2_hasKey at hJ
  refine Rn_sq srt46 0 2 (pc' := 2) (ls' := [some (.ref hh), some (.int a1)]) (st' := [(.int a1), (.ref hh)]) (h1 := (SH, s)) rfl ?_
  obtain ⟨v2, h1, hJ⟩ := m_b1 hJ
  refine Rn_call srt46 2 rfl rfl rfl ⟨Nat.le_of_ble_eq_true rfl, Nat.le_of_ble_eq_true rfl, (recv_H h_hh), Nat.le_of_ble_eq_true rfl⟩ (k_X2_keyOn hh (d) h_hh h1) (show Rn N xs (d + 2) me46 5 [some (.ref hh), some (.int a1)] [(.int v2)] (SH, s) r from ?_)
  refine Rn_sq srt46 3 2 (pc' := (if v2 = (ci (-1)) then 13 else 9)) (ls' := [some (.ref hh), some (.int a1)]) (st' := []) (h1 := (SH, s)) rfl (Rn_if (fun h3 => ?_) (fun h3 => ?_))
  · replace hJ := m_ifp h3 hJ
    refine Rn_sq srt46 7 1 (pc' := 14) (ls' := [some (.ref hh), some (.int a1)]) (st' := [(.int (ci 0))]) (h1 := (SH, s)) rfl ?_
    rw [← Option.some.inj hJ] at hC
    have hC : r = (some (.int (ci 0)), (SH, s)) := hC
    subst hC
    exact Rn_ret srt46 8 rfl rfl (m_ret_b rfl (by decide))
  · replace hJ := m_ifn h3 hJ
    refine Rn_sq srt46 5 2 (pc' := 14) (ls' := [some (.ref hh), some (.int a1)]) (st' := [(.int (ci 1))]) (h1 := (SH, s)) rfl ?_
    rw [← Option.some.inj hJ] at hC
    have hC : r = (some (.int (ci 1)), (SH, s)) := hC
    subst hC
    exact Rn_ret srt46 8 rfl rfl (m_ret_b rfl (by decide))
theorem k_X2_hasKey {N : Nat} {xs : Nat → Int32} (hh : Nat) (d : Nat) (h_hh : isH hh) {s : mG} {a1 : Int32} {τ : (Int32)} (hJ : F_X2_hasKey hh s a1 = some τ) : Rn N xs (d + 2) me46 0 [some (.ref hh), some (.int a1)] [] (SH, s) (some (.int τ), (SH, s)) := k_X2_hasKey_r hh d h_hh hJ rfl
/-! IsHeIn$House.outSet()I -/
theorem srt47 : m_srt mc47 = true := by decide +kernel
def C_X2_outSet_4 (N : Nat) (xs : Nat → Int32) (hh : Nat) (s : mG) (d : Nat) (r : Option Value × mH) (C : (Int32) → Prop) : ((Int32 × Int32) ⊕ (Int32)) → Prop
  | .inl v => Rn N xs (d + 2) me47 4 [some (.ref hh), some (.int v.1), some (.int v.2)] [] (SH, s) r
  | .inr a => C a
def F_X2_outSet_31 (hh : Nat) (s : mG) (x2 : Int32) (y0 : Int32) (y1 : Int32) : Option ((Int32 × Int32) ⊕ (Int32)) :=
  some (Sum.inl ((y0 ||| y1), (x2 + ci 1)))
set_option maxRecDepth 4000 in
theorem k_X2_outSet_31 {N : Nat} {xs : Nat → Int32} (hh : Nat) (d : Nat) (h_hh : isH hh) {r : Option Value × mH} {s : mG} {x2 : Int32} {y0 : Int32} {y1 : Int32} {τ : ((Int32 × Int32) ⊕ (Int32))} (hJ : F_X2_outSet_31 hh s x2 y0 y1 = some τ) (hC : (C_X2_outSet_4 N xs hh s d r (fun τ => r = (some (.int τ), (SH, s)))) τ) : Rn N xs (d + 2) me47 31 [some (.ref hh), none, some (.int x2)] [(.int y1), (.int y0)] (SH, s) r := by
  unfold F_X2_outSet_31 at hJ
  refine Rn_sq srt47 19 4 (pc' := 4) (ls' := [some (.ref hh), some (.int (y0 ||| y1)), some (.int (x2 + ci 1))]) (st' := []) (h1 := (SH, s)) rfl ?_
  rw [← Option.some.inj hJ] at hC
  exact hC
def F_X2_outSet_B4 (hh : Nat) (s : mG) (x1 : Int32) (x2 : Int32) : Option ((Int32 × Int32) ⊕ (Int32)) :=
  if (s.1 (hh + 1) 3) ≤ x2 then
    some (Sum.inr x1)
  else
    b1 (F_X2_isOut hh s x2) fun v3 =>
    if v3 = 0 then
      F_X2_outSet_31 hh s x2 x1 (ci 0)
    else
      F_X2_outSet_31 hh s x2 x1 ((ci 1) <<< (x2 &&& 31))
set_option maxRecDepth 4000 in
theorem k_X2_outSet_B4 {N : Nat} {xs : Nat → Int32} (hh : Nat) (d : Nat) (h_hh : isH hh) {r : Option Value × mH} {s : mG} {x1 : Int32} {x2 : Int32} {τ : ((Int32 × Int32) ⊕ (Int32))} (hJ : F_X2_outSet_B4 hh s x1 x2 = some τ) (hC : (C_X2_outSet_4 N xs hh s d r (fun τ => r = (some (.int τ), (SH, s)))) τ) : Rn N xs (d + 2) me47 4 [some (.ref hh), some (.int x1), some (.int x2)] [] (SH, s) r := by
  unfold F_X2_outSet_B4 at hJ
  refine Rn_sq srt47 4 2 (pc' := 6) (ls' := [some (.ref hh), some (.int x1), some (.int x2)]) (st' := [(.ref hh), (.int x2)]) (h1 := (SH, s)) rfl ?_
  refine Rn_ev srt47 6 rfl rfl rfl (op_gfH0 h_hh) ?_
  refine Rn_ev srt47 7 rfl rfl rfl (op_gfT3 (isH_t h_hh 0 (by decide))) ?_
  refine Rn_sq srt47 8 1 (pc' := (if (s.1 (hh + 1) 3) ≤ x2 then 39 else 15)) (ls' := [some (.ref hh), some (.int x1), some (.int x2)]) (st' := []) (h1 := (SH, s)) rfl (Rn_if (fun h1 => ?_) (fun h1 => ?_))
  · replace hJ := m_ifp h1 hJ
    refine Rn_sq srt47 23 1 (pc' := 40) (ls' := [some (.ref hh), some (.int x1), some (.int x2)]) (st' := [(.int x1)]) (h1 := (SH, s)) rfl ?_
    rw [← Option.some.inj hJ] at hC
    have hC : r = (some (.int x1), (SH, s)) := hC
    subst hC
    exact Rn_ret srt47 24 rfl rfl rfl
  · replace hJ := m_ifn h1 hJ
    refine Rn_sq srt47 9 3 (pc' := 18) (ls' := [some (.ref hh), some (.int x1), some (.int x2)]) (st' := [(.int x2), (.ref hh), (.int x1)]) (h1 := (SH, s)) rfl ?_
    obtain ⟨v3, h2, hJ⟩ := m_b1 hJ
    refine Rn_call srt47 12 rfl rfl rfl ⟨Nat.le_of_ble_eq_true rfl, Nat.le_of_ble_eq_true rfl, (recv_H h_hh), Nat.le_of_ble_eq_true rfl⟩ (k_X2_isOut hh (d) h_hh h2) (show Rn N xs (d + 2) me47 21 [some (.ref hh), some (.int x1), some (.int x2)] [(.int v3), (.int x1)] (SH, s) r from ?_)
    refine Rn_sq srt47 13 1 (pc' := (if v3 = 0 then 30 else 24)) (ls' := [some (.ref hh), some (.int x1), some (.int x2)]) (st' := [(.int x1)]) (h1 := (SH, s)) rfl (Rn_if (fun h4 => ?_) (fun h4 => ?_))
    · replace hJ := m_ifp h4 hJ
      refine Rn_sq srt47 18 1 (pc' := 31) (ls' := [some (.ref hh), some (.int x1), some (.int x2)]) (st' := [(.int (ci 0)), (.int x1)]) (h1 := (SH, s)) rfl ?_
      exact Rn_weaken (a := [some (.ref hh), none, some (.int x2)]) (b := [some (.ref hh), some (.int x1), some (.int x2)]) (And.intro rfl (And.intro rfl trivial)) rfl (k_X2_outSet_31 hh d h_hh hJ hC)
    · replace hJ := m_ifn h4 hJ
      refine Rn_sq srt47 14 4 (pc' := 31) (ls' := [some (.ref hh), some (.int x1), some (.int x2)]) (st' := [(.int ((ci 1) <<< (x2 &&& 31))), (.int x1)]) (h1 := (SH, s)) rfl ?_
      exact Rn_weaken (a := [some (.ref hh), none, some (.int x2)]) (b := [some (.ref hh), some (.int x1), some (.int x2)]) (And.intro rfl (And.intro rfl trivial)) rfl (k_X2_outSet_31 hh d h_hh hJ hC)
def F_X2_outSet_L4 (hh : Nat) (s : mG) (x1 : Int32) (x2 : Int32) : Option (Int32) := whl (fun (v : (Int32 × Int32)) => F_X2_outSet_B4 hh s v.1 v.2) (x1, x2)
theorem k_X2_outSet_L4 {N : Nat} {xs : Nat → Int32} (hh : Nat) (d : Nat) (h_hh : isH hh) {r : Option Value × mH} {s : mG} {x1 : Int32} {x2 : Int32} {τ : (Int32)} (hJ : F_X2_outSet_L4 hh s x1 x2 = some τ) (hC : (fun τ => r = (some (.int τ), (SH, s))) τ) : Rn N xs (d + 2) me47 4 [some (.ref hh), some (.int x1), some (.int x2)] [] (SH, s) r :=
  whl_link (P := fun (v : (Int32 × Int32)) => Rn N xs (d + 2) me47 4 [some (.ref hh), some (.int v.1), some (.int v.2)] [] (SH, s) r) (C := (C_X2_outSet_4 N xs hh s d r (fun τ => r = (some (.int τ), (SH, s))))) (fun v τ h1 h2 => k_X2_outSet_B4 hh d h_hh h1 h2) (fun _ h => h) (fun _ h => h) _ _ hJ hC
def F_X2_outSet (hh : Nat) (s : mG) : Option (Int32) :=
  F_X2_outSet_L4 hh s (ci 0) (ci 0)
set_option maxRecDepth 4000 in
theorem k_X2_outSet_r {N : Nat} {xs : Nat → Int32} (hh : Nat) (d : Nat) (h_hh : isH hh) {r : Option Value × mH} {s : mG} {τ : (Int32)} (hJ : F_X2_outSet hh s = some τ) (hC : (fun τ => r = (some (.int τ), (SH, s))) τ) : Rn N xs (d + 2) me47 0 [some (.ref hh), none, none] [] (SH, s) r := by
  unfold F_X2_outSet at hJ
  refine Rn_sq srt47 0 4 (pc' := 4) (ls' := [some (.ref hh), some (.int (ci 0)), some (.int (ci 0))]) (st' := []) (h1 := (SH, s)) rfl ?_
  exact (k_X2_outSet_L4 hh d h_hh hJ hC)
theorem k_X2_outSet {N : Nat} {xs : Nat → Int32} (hh : Nat) (d : Nat) (h_hh : isH hh) {s : mG} {τ : (Int32)} (hJ : F_X2_outSet hh s = some τ) : Rn N xs (d + 2) me47 0 [some (.ref hh), none, none] [] (SH, s) (some (.int τ), (SH, s)) := k_X2_outSet_r hh d h_hh hJ rfl
/-! IsHeIn$House.hookSet()I -/
theorem srt48 : m_srt mc48 = true := by decide +kernel
def C_X2_hookSet_4 (N : Nat) (xs : Nat → Int32) (hh : Nat) (s : mG) (d : Nat) (r : Option Value × mH) (C : (Int32) → Prop) : ((Int32 × Int32) ⊕ (Int32)) → Prop
  | .inl v => Rn N xs (d + 3) me48 4 [some (.ref hh), some (.int v.1), some (.int v.2)] [] (SH, s) r
  | .inr a => C a
def F_X2_hookSet_31 (hh : Nat) (s : mG) (x2 : Int32) (y0 : Int32) (y1 : Int32) : Option ((Int32 × Int32) ⊕ (Int32)) :=
  some (Sum.inl ((y0 ||| y1), (x2 + ci 1)))
set_option maxRecDepth 4000 in
theorem k_X2_hookSet_31 {N : Nat} {xs : Nat → Int32} (hh : Nat) (d : Nat) (h_hh : isH hh) {r : Option Value × mH} {s : mG} {x2 : Int32} {y0 : Int32} {y1 : Int32} {τ : ((Int32 × Int32) ⊕ (Int32))} (hJ : F_X2_hookSet_31 hh s x2 y0 y1 = some τ) (hC : (C_X2_hookSet_4 N xs hh s d r (fun τ => r = (some (.int τ), (SH, s)))) τ) : Rn N xs (d + 3) me48 31 [some (.ref hh), none, some (.int x2)] [(.int y1), (.int y0)] (SH, s) r := by
  unfold F_X2_hookSet_31 at hJ
  refine Rn_sq srt48 19 4 (pc' := 4) (ls' := [some (.ref hh), some (.int (y0 ||| y1)), some (.int (x2 + ci 1))]) (st' := []) (h1 := (SH, s)) rfl ?_
  rw [← Option.some.inj hJ] at hC
  exact hC
def F_X2_hookSet_B4 (hh : Nat) (s : mG) (x1 : Int32) (x2 : Int32) : Option ((Int32 × Int32) ⊕ (Int32)) :=
  if (s.1 (hh + 1) 3) ≤ x2 then
    some (Sum.inr x1)
  else
    b1 (F_X2_hasKey hh s x2) fun v3 =>
    if v3 = 0 then
      F_X2_hookSet_31 hh s x2 x1 (ci 0)
    else
      F_X2_hookSet_31 hh s x2 x1 ((ci 1) <<< (x2 &&& 31))
set_option maxRecDepth 4000 in
theorem k_X2_hookSet_B4 {N : Nat} {xs : Nat → Int32} (hh : Nat) (d : Nat) (h_hh : isH hh) {r : Option Value × mH} {s : mG} {x1 : Int32} {x2 : Int32} {τ : ((Int32 × Int32) ⊕ (Int32))} (hJ : F_X2_hookSet_B4 hh s x1 x2 = some τ) (hC : (C_X2_hookSet_4 N xs hh s d r (fun τ => r = (some (.int τ), (SH, s)))) τ) : Rn N xs (d + 3) me48 4 [some (.ref hh), some (.int x1), some (.int x2)] [] (SH, s) r := by
  unfold F_X2_hookSet_B4 at hJ
  refine Rn_sq srt48 4 2 (pc' := 6) (ls' := [some (.ref hh), some (.int x1), some (.int x2)]) (st' := [(.ref hh), (.int x2)]) (h1 := (SH, s)) rfl ?_
  refine Rn_ev srt48 6 rfl rfl rfl (op_gfH0 h_hh) ?_
  refine Rn_ev srt48 7 rfl rfl rfl (op_gfT3 (isH_t h_hh 0 (by decide))) ?_
  refine Rn_sq srt48 8 1 (pc' := (if (s.1 (hh + 1) 3) ≤ x2 then 39 else 15)) (ls' := [some (.ref hh), some (.int x1), some (.int x2)]) (st' := []) (h1 := (SH, s)) rfl (Rn_if (fun h1 => ?_) (fun h1 => ?_))
  · replace hJ := m_ifp h1 hJ
    refine Rn_sq srt48 23 1 (pc' := 40) (ls' := [some (.ref hh), some (.int x1), some (.int x2)]) (st' := [(.int x1)]) (h1 := (SH, s)) rfl ?_
    rw [← Option.some.inj hJ] at hC
    have hC : r = (some (.int x1), (SH, s)) := hC
    subst hC
    exact Rn_ret srt48 24 rfl rfl rfl
  · replace hJ := m_ifn h1 hJ
    refine Rn_sq srt48 9 3 (pc' := 18) (ls' := [some (.ref hh), some (.int x1), some (.int x2)]) (st' := [(.int x2), (.ref hh), (.int x1)]) (h1 := (SH, s)) rfl ?_
    obtain ⟨v3, h2, hJ⟩ := m_b1 hJ
    refine Rn_call srt48 12 rfl rfl rfl ⟨Nat.le_of_ble_eq_true rfl, Nat.le_of_ble_eq_true rfl, (recv_H h_hh), Nat.le_of_ble_eq_true rfl⟩ (k_X2_hasKey hh (d) h_hh h2) (show Rn N xs (d + 3) me48 21 [some (.ref hh), some (.int x1), some (.int x2)] [(.int v3), (.int x1)] (SH, s) r from ?_)
    refine Rn_sq srt48 13 1 (pc' := (if v3 = 0 then 30 else 24)) (ls' := [some (.ref hh), some (.int x1), some (.int x2)]) (st' := [(.int x1)]) (h1 := (SH, s)) rfl (Rn_if (fun h4 => ?_) (fun h4 => ?_))
    · replace hJ := m_ifp h4 hJ
      refine Rn_sq srt48 18 1 (pc' := 31) (ls' := [some (.ref hh), some (.int x1), some (.int x2)]) (st' := [(.int (ci 0)), (.int x1)]) (h1 := (SH, s)) rfl ?_
      exact Rn_weaken (a := [some (.ref hh), none, some (.int x2)]) (b := [some (.ref hh), some (.int x1), some (.int x2)]) (And.intro rfl (And.intro rfl trivial)) rfl (k_X2_hookSet_31 hh d h_hh hJ hC)
    · replace hJ := m_ifn h4 hJ
      refine Rn_sq srt48 14 4 (pc' := 31) (ls' := [some (.ref hh), some (.int x1), some (.int x2)]) (st' := [(.int ((ci 1) <<< (x2 &&& 31))), (.int x1)]) (h1 := (SH, s)) rfl ?_
      exact Rn_weaken (a := [some (.ref hh), none, some (.int x2)]) (b := [some (.ref hh), some (.int x1), some (.int x2)]) (And.intro rfl (And.intro rfl trivial)) rfl (k_X2_hookSet_31 hh d h_hh hJ hC)
def F_X2_hookSet_L4 (hh : Nat) (s : mG) (x1 : Int32) (x2 : Int32) : Option (Int32) := whl (fun (v : (Int32 × Int32)) => F_X2_hookSet_B4 hh s v.1 v.2) (x1, x2)
theorem k_X2_hookSet_L4 {N : Nat} {xs : Nat → Int32} (hh : Nat) (d : Nat) (h_hh : isH hh) {r : Option Value × mH} {s : mG} {x1 : Int32} {x2 : Int32} {τ : (Int32)} (hJ : F_X2_hookSet_L4 hh s x1 x2 = some τ) (hC : (fun τ => r = (some (.int τ), (SH, s))) τ) : Rn N xs (d + 3) me48 4 [some (.ref hh), some (.int x1), some (.int x2)] [] (SH, s) r :=
  whl_link (P := fun (v : (Int32 × Int32)) => Rn N xs (d + 3) me48 4 [some (.ref hh), some (.int v.1), some (.int v.2)] [] (SH, s) r) (C := (C_X2_hookSet_4 N xs hh s d r (fun τ => r = (some (.int τ), (SH, s))))) (fun v τ h1 h2 => k_X2_hookSet_B4 hh d h_hh h1 h2) (fun _ h => h) (fun _ h => h) _ _ hJ hC
def F_X2_hookSet (hh : Nat) (s : mG) : Option (Int32) :=
  F_X2_hookSet_L4 hh s (ci 0) (ci 0)
set_option maxRecDepth 4000 in
theorem k_X2_hookSet_r {N : Nat} {xs : Nat → Int32} (hh : Nat) (d : Nat) (h_hh : isH hh) {r : Option Value × mH} {s : mG} {τ : (Int32)} (hJ : F_X2_hookSet hh s = some τ) (hC : (fun τ => r = (some (.int τ), (SH, s))) τ) : Rn N xs (d + 3) me48 0 [some (.ref hh), none, none] [] (SH, s) r := by
  unfold F_X2_hookSet at hJ
  refine Rn_sq srt48 0 4 (pc' := 4) (ls' := [some (.ref hh), some (.int (ci 0)), some (.int (ci 0))]) (st' := []) (h1 := (SH, s)) rfl ?_
  exact (k_X2_hookSet_L4 hh d h_hh hJ hC)
theorem k_X2_hookSet {N : Nat} {xs : Nat → Int32} (hh : Nat) (d : Nat) (h_hh : isH hh) {s : mG} {τ : (Int32)} (hJ : F_X2_hookSet hh s = some τ) : Rn N xs (d + 3) me48 0 [some (.ref hh), none, none] [] (SH, s) (some (.int τ), (SH, s)) := k_X2_hookSet_r hh d h_hh hJ rfl
/-! IsHeIn$House.keylessSet()I -/
theorem srt49 : m_srt mc49 = true := by decide +kernel
def C_X2_keylessSet_4 (N : Nat) (xs : Nat → Int32) (hh : Nat) (s : mG) (d : Nat) (r : Option Value × mH) (C : (Int32) → Prop) : ((Int32 × Int32) ⊕ (Int32)) → Prop
  | .inl v => Rn N xs (d + 1) me49 4 [some (.ref hh), some (.int v.1), some (.int v.2)] [] (SH, s) r
  | .inr a => C a
def F_X2_keylessSet_36 (hh : Nat) (s : mG) (x2 : Int32) (y0 : Int32) (y1 : Int32) : Option ((Int32 × Int32) ⊕ (Int32)) :=
  some (Sum.inl ((y0 ||| y1), (x2 + ci 1)))
set_option maxRecDepth 4000 in
theorem k_X2_keylessSet_36 {N : Nat} {xs : Nat → Int32} (hh : Nat) (d : Nat) (h_hh : isH hh) {r : Option Value × mH} {s : mG} {x2 : Int32} {y0 : Int32} {y1 : Int32} {τ : ((Int32 × Int32) ⊕ (Int32))} (hJ : F_X2_keylessSet_36 hh s x2 y0 y1 = some τ) (hC : (C_X2_keylessSet_4 N xs hh s d r (fun τ => r = (some (.int τ), (SH, s)))) τ) : Rn N xs (d + 1) me49 36 [some (.ref hh), none, some (.int x2)] [(.int y1), (.int y0)] (SH, s) r := by
  unfold F_X2_keylessSet_36 at hJ
  refine Rn_sq srt49 22 4 (pc' := 4) (ls' := [some (.ref hh), some (.int (y0 ||| y1)), some (.int (x2 + ci 1))]) (st' := []) (h1 := (SH, s)) rfl ?_
  rw [← Option.some.inj hJ] at hC
  exact hC
def F_X2_keylessSet_B4 (hh : Nat) (s : mG) (x1 : Int32) (x2 : Int32) : Option ((Int32 × Int32) ⊕ (Int32)) :=
  if (s.1 (hh + 1) 3) ≤ x2 then
    some (Sum.inr x1)
  else
    b1 (F_X10_at (hh + 1) s x2 (ci 3)) fun v3 =>
    if v3 = (ci (-1)) then
      F_X2_keylessSet_36 hh s x2 x1 ((ci 1) <<< (x2 &&& 31))
    else
      F_X2_keylessSet_36 hh s x2 x1 (ci 0)
set_option maxRecDepth 4000 in
theorem k_X2_keylessSet_B4 {N : Nat} {xs : Nat → Int32} (hh : Nat) (d : Nat) (h_hh : isH hh) {r : Option Value × mH} {s : mG} {x1 : Int32} {x2 : Int32} {τ : ((Int32 × Int32) ⊕ (Int32))} (hJ : F_X2_keylessSet_B4 hh s x1 x2 = some τ) (hC : (C_X2_keylessSet_4 N xs hh s d r (fun τ => r = (some (.int τ), (SH, s)))) τ) : Rn N xs (d + 1) me49 4 [some (.ref hh), some (.int x1), some (.int x2)] [] (SH, s) r := by
  unfold F_X2_keylessSet_B4 at hJ
  refine Rn_sq srt49 4 2 (pc' := 6) (ls' := [some (.ref hh), some (.int x1), some (.int x2)]) (st' := [(.ref hh), (.int x2)]) (h1 := (SH, s)) rfl ?_
  refine Rn_ev srt49 6 rfl rfl rfl (op_gfH0 h_hh) ?_
  refine Rn_ev srt49 7 rfl rfl rfl (op_gfT3 (isH_t h_hh 0 (by decide))) ?_
  refine Rn_sq srt49 8 1 (pc' := (if (s.1 (hh + 1) 3) ≤ x2 then 44 else 15)) (ls' := [some (.ref hh), some (.int x1), some (.int x2)]) (st' := []) (h1 := (SH, s)) rfl (Rn_if (fun h1 => ?_) (fun h1 => ?_))
  · replace hJ := m_ifp h1 hJ
    refine Rn_sq srt49 26 1 (pc' := 45) (ls' := [some (.ref hh), some (.int x1), some (.int x2)]) (st' := [(.int x1)]) (h1 := (SH, s)) rfl ?_
    rw [← Option.some.inj hJ] at hC
    have hC : r = (some (.int x1), (SH, s)) := hC
    subst hC
    exact Rn_ret srt49 27 rfl rfl rfl
  · replace hJ := m_ifn h1 hJ
    refine Rn_sq srt49 9 2 (pc' := 17) (ls' := [some (.ref hh), some (.int x1), some (.int x2)]) (st' := [(.ref hh), (.int x1)]) (h1 := (SH, s)) rfl ?_
    refine Rn_ev srt49 11 rfl rfl rfl (op_gfH0 h_hh) ?_
    refine Rn_sq srt49 12 2 (pc' := 22) (ls' := [some (.ref hh), some (.int x1), some (.int x2)]) (st' := [(.int (ci 3)), (.int x2), (.ref (hh + 1)), (.int x1)]) (h1 := (SH, s)) rfl ?_
    obtain ⟨v3, h2, hJ⟩ := m_b1 hJ
    refine Rn_call srt49 14 rfl rfl rfl ⟨Nat.le_of_ble_eq_true rfl, Nat.le_of_ble_eq_true rfl, (recv_T (isH_t h_hh 0 (by decide))), Nat.le_of_ble_eq_true rfl⟩ (k_X10_at (hh + 1) (d) (isH_t h_hh 0 (by decide)) h2) (show Rn N xs (d + 1) me49 25 [some (.ref hh), some (.int x1), some (.int x2)] [(.int v3), (.int x1)] (SH, s) r from ?_)
    refine Rn_sq srt49 15 2 (pc' := (if v3 = (ci (-1)) then 29 else 35)) (ls' := [some (.ref hh), some (.int x1), some (.int x2)]) (st' := [(.int x1)]) (h1 := (SH, s)) rfl (Rn_if (fun h4 => ?_) (fun h4 => ?_))
    · replace hJ := m_ifp h4 hJ
      refine Rn_sq srt49 17 4 (pc' := 36) (ls' := [some (.ref hh), some (.int x1), some (.int x2)]) (st' := [(.int ((ci 1) <<< (x2 &&& 31))), (.int x1)]) (h1 := (SH, s)) rfl ?_
      exact Rn_weaken (a := [some (.ref hh), none, some (.int x2)]) (b := [some (.ref hh), some (.int x1), some (.int x2)]) (And.intro rfl (And.intro rfl trivial)) rfl (k_X2_keylessSet_36 hh d h_hh hJ hC)
    · replace hJ := m_ifn h4 hJ
      refine Rn_sq srt49 21 1 (pc' := 36) (ls' := [some (.ref hh), some (.int x1), some (.int x2)]) (st' := [(.int (ci 0)), (.int x1)]) (h1 := (SH, s)) rfl ?_
      exact Rn_weaken (a := [some (.ref hh), none, some (.int x2)]) (b := [some (.ref hh), some (.int x1), some (.int x2)]) (And.intro rfl (And.intro rfl trivial)) rfl (k_X2_keylessSet_36 hh d h_hh hJ hC)
def F_X2_keylessSet_L4 (hh : Nat) (s : mG) (x1 : Int32) (x2 : Int32) : Option (Int32) := whl (fun (v : (Int32 × Int32)) => F_X2_keylessSet_B4 hh s v.1 v.2) (x1, x2)
theorem k_X2_keylessSet_L4 {N : Nat} {xs : Nat → Int32} (hh : Nat) (d : Nat) (h_hh : isH hh) {r : Option Value × mH} {s : mG} {x1 : Int32} {x2 : Int32} {τ : (Int32)} (hJ : F_X2_keylessSet_L4 hh s x1 x2 = some τ) (hC : (fun τ => r = (some (.int τ), (SH, s))) τ) : Rn N xs (d + 1) me49 4 [some (.ref hh), some (.int x1), some (.int x2)] [] (SH, s) r :=
  whl_link (P := fun (v : (Int32 × Int32)) => Rn N xs (d + 1) me49 4 [some (.ref hh), some (.int v.1), some (.int v.2)] [] (SH, s) r) (C := (C_X2_keylessSet_4 N xs hh s d r (fun τ => r = (some (.int τ), (SH, s))))) (fun v τ h1 h2 => k_X2_keylessSet_B4 hh d h_hh h1 h2) (fun _ h => h) (fun _ h => h) _ _ hJ hC
def F_X2_keylessSet (hh : Nat) (s : mG) : Option (Int32) :=
  F_X2_keylessSet_L4 hh s (ci 0) (ci 0)
set_option maxRecDepth 4000 in
theorem k_X2_keylessSet_r {N : Nat} {xs : Nat → Int32} (hh : Nat) (d : Nat) (h_hh : isH hh) {r : Option Value × mH} {s : mG} {τ : (Int32)} (hJ : F_X2_keylessSet hh s = some τ) (hC : (fun τ => r = (some (.int τ), (SH, s))) τ) : Rn N xs (d + 1) me49 0 [some (.ref hh), none, none] [] (SH, s) r := by
  unfold F_X2_keylessSet at hJ
  refine Rn_sq srt49 0 4 (pc' := 4) (ls' := [some (.ref hh), some (.int (ci 0)), some (.int (ci 0))]) (st' := []) (h1 := (SH, s)) rfl ?_
  exact (k_X2_keylessSet_L4 hh d h_hh hJ hC)
theorem k_X2_keylessSet {N : Nat} {xs : Nat → Int32} (hh : Nat) (d : Nat) (h_hh : isH hh) {s : mG} {τ : (Int32)} (hJ : F_X2_keylessSet hh s = some τ) : Rn N xs (d + 1) me49 0 [some (.ref hh), none, none] [] (SH, s) (some (.int τ), (SH, s)) := k_X2_keylessSet_r hh d h_hh hJ rfl
/-! IsHeIn$House.drawThousand()I -/
theorem srt50 : m_srt mc50 = true := by decide +kernel
def F_X2_drawThousand (hh : Nat) (s : mG) : Option (Int32 × mG) :=
  let s1 : mG := (mu s.1 hh 11 (((s.1 hh 11) * (ci 1664525)) + (ci 1013904223)), s.2)
  let v2 : Int32 := (rm (ushr (s1.1 hh 11) (c8 8)) (c16 1000))
  some (v2, s1)
set_option maxRecDepth 4000 in
theorem k_X2_drawThousand_r {N : Nat} {xs : Nat → Int32} (hh : Nat) (d : Nat) (h_hh : isH hh) {r : Option Value × mH} {s : mG} {τ : (Int32 × mG)} (hJ : F_X2_drawThousand hh s = some τ) (hC : (fun τ => r = (some (.int τ.1), (SH, τ.2))) τ) : Rn N xs (d + 0) me50 0 [some (.ref hh)] [] (SH, s) r := by
  unfold F_X2_drawThousand at hJ
  refine Rn_sq srt50 0 2 (pc' := 2) (ls' := [some (.ref hh)]) (st' := [(.ref hh), (.ref hh)]) (h1 := (SH, s)) rfl ?_
  refine Rn_ev srt50 2 rfl rfl rfl (op_gfH11 h_hh) ?_
  refine Rn_sq srt50 3 4 (pc' := 11) (ls' := [some (.ref hh)]) (st' := [(.int (((s.1 hh 11) * (ci 1664525)) + (ci 1013904223))), (.ref hh)]) (h1 := (SH, s)) rfl ?_
  extract_lets +onlyGivenNames s1 at hJ
  refine Rn_ev srt50 7 rfl rfl rfl (op_pfH11 h_hh) ?_
  refine Rn_sq srt50 8 1 (pc' := 15) (ls' := [some (.ref hh)]) (st' := [(.ref hh)]) (h1 := (SH, s1)) rfl ?_
  refine Rn_ev srt50 9 rfl rfl rfl (op_gfH11 h_hh) ?_
  refine Rn_sq srt50 10 3 (pc' := 24) (ls' := [some (.ref hh)]) (st' := [(.int (c16 1000)), (.int (ushr (s1.1 hh 11) (c8 8)))]) (h1 := (SH, s1)) rfl ?_
  refine Rn_ev srt50 13 rfl rfl rfl (op_irem (by decide)) ?_
  extract_lets +onlyGivenNames v2 at hJ
  rw [← Option.some.inj hJ] at hC
  have hC : r = (some (.int (rm (ushr (s1.1 hh 11) (c8 8)) (c16 1000))), (SH, s1)) := hC
  subst hC
  exact Rn_ret srt50 14 rfl rfl rfl
theorem k_X2_drawThousand {N : Nat} {xs : Nat → Int32} (hh : Nat) (d : Nat) (h_hh : isH hh) {s : mG} {τ : (Int32 × mG)} (hJ : F_X2_drawThousand hh s = some τ) : Rn N xs (d + 0) me50 0 [some (.ref hh)] [] (SH, s) (some (.int τ.1), (SH, τ.2)) := k_X2_drawThousand_r hh d h_hh hJ rfl
/-! IsHeIn$House.write(IIII)V -/
theorem srt51 : m_srt mc51 = true := by decide +kernel
def F_X2_write (hh : Nat) (a1 : Int32) (a2 : Int32) (a3 : Int32) (a4 : Int32) (s : mG) : Option (mG) :=
  b1 (F_X10_isFull (hh + 3) s) fun v2 =>
  if v2 = 0 then
    b2 (F_X10_add (hh + 3) s) fun v6 s5 =>
    b1 (F_X10_put (hh + 3) v6 (ci 0) (s5.1 hh 10) s5) fun s8 =>
    b1 (F_X10_put (hh + 3) v6 (ci 1) a1 s8) fun s10 =>
    b1 (F_X10_put (hh + 3) v6 (ci 2) a2 s10) fun s12 =>
    b1 (F_X10_put (hh + 3) v6 (ci 3) a3 s12) fun s14 =>
    b1 (F_X10_put (hh + 3) v6 (ci 4) a4 s14) fun s16 =>
    some s16
  else
    some s
set_option maxRecDepth 4000 in
theorem k_X2_write_r {N : Nat} {xs : Nat → Int32} (hh : Nat) (d : Nat) (h_hh : isH hh) {r : Option Value × mH} {s : mG} {a1 : Int32} {a2 : Int32} {a3 : Int32} {a4 : Int32} {τ : (mG)} (hJ : F_X2_write hh a1 a2 a3 a4 s = some τ) (hC : (fun τ => r = (none, (SH, τ))) τ) : Rn N xs (d + 2) me51 0 [some (.ref hh), some (.int a1), some (.int a2), some (.int a3), some (.int a4), none] [] (SH, s) r := by
  unfold F_X2_write at hJ
  refine Rn_sq srt51 0 1 (pc' := 1) (ls' := [some (.ref hh), some (.int a1), some (.int a2), some (.int a3), some (.int a4), none]) (st' := [(.ref hh)]) (h1 := (SH, s)) rfl ?_
  refine Rn_ev srt51 1 rfl rfl rfl (op_gfH1 h_hh) ?_
  obtain ⟨v2, h1, hJ⟩ := m_b1 hJ
  refine Rn_call srt51 2 rfl rfl rfl ⟨Nat.le_of_ble_eq_true rfl, Nat.le_of_ble_eq_true rfl, (recv_T (isH_t h_hh 1 (by decide))), Nat.le_of_ble_eq_true rfl⟩ (k_X10_isFull (hh + 3) (d + 1) (isH_t h_hh 1 (by decide)) h1) (show Rn N xs (d + 2) me51 7 [some (.ref hh), some (.int a1), some (.int a2), some (.int a3), some (.int a4), none] [(.int v2)] (SH, s) r from ?_)
  refine Rn_sq srt51 3 1 (pc' := (if v2 = 0 then 11 else 10)) (ls' := [some (.ref hh), some (.int a1), some (.int a2), some (.int a3), some (.int a4), none]) (st' := []) (h1 := (SH, s)) rfl (Rn_if (fun h3 => ?_) (fun h3 => ?_))
  · replace hJ := m_ifp h3 hJ
    refine Rn_sq srt51 5 1 (pc' := 12) (ls' := [some (.ref hh), some (.int a1), some (.int a2), some (.int a3), some (.int a4), none]) (st' := [(.ref hh)]) (h1 := (SH, s)) rfl ?_
    refine Rn_ev srt51 6 rfl rfl rfl (op_gfH1 h_hh) ?_
    obtain ⟨v6, s5, h4, hJ⟩ := m_b2 hJ
    refine Rn_call srt51 7 rfl rfl rfl ⟨Nat.le_of_ble_eq_true rfl, Nat.le_of_ble_eq_true rfl, (recv_T (isH_t h_hh 1 (by decide))), Nat.le_of_ble_eq_true rfl⟩ (k_X10_add (hh + 3) (d) (isH_t h_hh 1 (by decide)) h4) (show Rn N xs (d + 2) me51 18 [some (.ref hh), some (.int a1), some (.int a2), some (.int a3), some (.int a4), none] [(.int v6)] (SH, s5) r from ?_)
    refine Rn_sq srt51 8 2 (pc' := 21) (ls' := [some (.ref hh), some (.int a1), some (.int a2), some (.int a3), some (.int a4), some (.int v6)]) (st' := [(.ref hh)]) (h1 := (SH, s5)) rfl ?_
    refine Rn_ev srt51 10 rfl rfl rfl (op_gfH1 h_hh) ?_
    refine Rn_sq srt51 11 3 (pc' := 28) (ls' := [some (.ref hh), some (.int a1), some (.int a2), some (.int a3), some (.int a4), some (.int v6)]) (st' := [(.ref hh), (.int (ci 0)), (.int v6), (.ref (hh + 3))]) (h1 := (SH, s5)) rfl ?_
    refine Rn_ev srt51 14 rfl rfl rfl (op_gfH10 h_hh) ?_
    obtain ⟨s8, h7, hJ⟩ := m_b1 hJ
    refine Rn_call srt51 15 rfl rfl rfl ⟨Nat.le_of_ble_eq_true rfl, Nat.le_of_ble_eq_true rfl, (recv_T (isH_t h_hh 1 (by decide))), Nat.le_of_ble_eq_true rfl⟩ (k_X10_put (hh + 3) (d + 1) (isH_t h_hh 1 (by decide)) h7) (show Rn N xs (d + 2) me51 34 [some (.ref hh), some (.int a1), some (.int a2), some (.int a3), some (.int a4), some (.int v6)] [] (SH, s8) r from ?_)
    refine Rn_sq srt51 16 1 (pc' := 35) (ls' := [some (.ref hh), some (.int a1), some (.int a2), some (.int a3), some (.int a4), some (.int v6)]) (st' := [(.ref hh)]) (h1 := (SH, s8)) rfl ?_
    refine Rn_ev srt51 17 rfl rfl rfl (op_gfH1 h_hh) ?_
    refine Rn_sq srt51 18 3 (pc' := 42) (ls' := [some (.ref hh), some (.int a1), some (.int a2), some (.int a3), some (.int a4), some (.int v6)]) (st' := [(.int a1), (.int (ci 1)), (.int v6), (.ref (hh + 3))]) (h1 := (SH, s8)) rfl ?_
    obtain ⟨s10, h9, hJ⟩ := m_b1 hJ
    refine Rn_call srt51 21 rfl rfl rfl ⟨Nat.le_of_ble_eq_true rfl, Nat.le_of_ble_eq_true rfl, (recv_T (isH_t h_hh 1 (by decide))), Nat.le_of_ble_eq_true rfl⟩ (k_X10_put (hh + 3) (d + 1) (isH_t h_hh 1 (by decide)) h9) (show Rn N xs (d + 2) me51 45 [some (.ref hh), some (.int a1), some (.int a2), some (.int a3), some (.int a4), some (.int v6)] [] (SH, s10) r from ?_)
    refine Rn_sq srt51 22 1 (pc' := 46) (ls' := [some (.ref hh), some (.int a1), some (.int a2), some (.int a3), some (.int a4), some (.int v6)]) (st' := [(.ref hh)]) (h1 := (SH, s10)) rfl ?_
    refine Rn_ev srt51 23 rfl rfl rfl (op_gfH1 h_hh) ?_
    refine Rn_sq srt51 24 3 (pc' := 53) (ls' := [some (.ref hh), some (.int a1), some (.int a2), some (.int a3), some (.int a4), some (.int v6)]) (st' := [(.int a2), (.int (ci 2)), (.int v6), (.ref (hh + 3))]) (h1 := (SH, s10)) rfl ?_
    obtain ⟨s12, h11, hJ⟩ := m_b1 hJ
    refine Rn_call srt51 27 rfl rfl rfl ⟨Nat.le_of_ble_eq_true rfl, Nat.le_of_ble_eq_true rfl, (recv_T (isH_t h_hh 1 (by decide))), Nat.le_of_ble_eq_true rfl⟩ (k_X10_put (hh + 3) (d + 1) (isH_t h_hh 1 (by decide)) h11) (show Rn N xs (d + 2) me51 56 [some (.ref hh), some (.int a1), some (.int a2), some (.int a3), some (.int a4), some (.int v6)] [] (SH, s12) r from ?_)
    refine Rn_sq srt51 28 1 (pc' := 57) (ls' := [some (.ref hh), some (.int a1), some (.int a2), some (.int a3), some (.int a4), some (.int v6)]) (st' := [(.ref hh)]) (h1 := (SH, s12)) rfl ?_
    refine Rn_ev srt51 29 rfl rfl rfl (op_gfH1 h_hh) ?_
    refine Rn_sq srt51 30 3 (pc' := 64) (ls' := [some (.ref hh), some (.int a1), some (.int a2), some (.int a3), some (.int a4), some (.int v6)]) (st' := [(.int a3), (.int (ci 3)), (.int v6), (.ref (hh + 3))]) (h1 := (SH, s12)) rfl ?_
    obtain ⟨s14, h13, hJ⟩ := m_b1 hJ
    refine Rn_call srt51 33 rfl rfl rfl ⟨Nat.le_of_ble_eq_true rfl, Nat.le_of_ble_eq_true rfl, (recv_T (isH_t h_hh 1 (by decide))), Nat.le_of_ble_eq_true rfl⟩ (k_X10_put (hh + 3) (d + 1) (isH_t h_hh 1 (by decide)) h13) (show Rn N xs (d + 2) me51 67 [some (.ref hh), some (.int a1), some (.int a2), some (.int a3), some (.int a4), some (.int v6)] [] (SH, s14) r from ?_)
    refine Rn_sq srt51 34 1 (pc' := 68) (ls' := [some (.ref hh), some (.int a1), some (.int a2), some (.int a3), some (.int a4), some (.int v6)]) (st' := [(.ref hh)]) (h1 := (SH, s14)) rfl ?_
    refine Rn_ev srt51 35 rfl rfl rfl (op_gfH1 h_hh) ?_
    refine Rn_sq srt51 36 3 (pc' := 76) (ls' := [some (.ref hh), some (.int a1), some (.int a2), some (.int a3), some (.int a4), some (.int v6)]) (st' := [(.int a4), (.int (ci 4)), (.int v6), (.ref (hh + 3))]) (h1 := (SH, s14)) rfl ?_
    obtain ⟨s16, h15, hJ⟩ := m_b1 hJ
    refine Rn_call srt51 39 rfl rfl rfl ⟨Nat.le_of_ble_eq_true rfl, Nat.le_of_ble_eq_true rfl, (recv_T (isH_t h_hh 1 (by decide))), Nat.le_of_ble_eq_true rfl⟩ (k_X10_put (hh + 3) (d + 1) (isH_t h_hh 1 (by decide)) h15) (show Rn N xs (d + 2) me51 79 [some (.ref hh), some (.int a1), some (.int a2), some (.int a3), some (.int a4), some (.int v6)] [] (SH, s16) r from ?_)
    rw [← Option.some.inj hJ] at hC
    have hC : r = (none, (SH, s16)) := hC
    subst hC
    exact Rn_ret srt51 40 rfl rfl rfl
  · replace hJ := m_ifn h3 hJ
    rw [← Option.some.inj hJ] at hC
    have hC : r = (none, (SH, s)) := hC
    subst hC
    exact Rn_ret srt51 4 rfl rfl rfl
theorem k_X2_write {N : Nat} {xs : Nat → Int32} (hh : Nat) (d : Nat) (h_hh : isH hh) {s : mG} {a1 : Int32} {a2 : Int32} {a3 : Int32} {a4 : Int32} {τ : (mG)} (hJ : F_X2_write hh a1 a2 a3 a4 s = some τ) : Rn N xs (d + 2) me51 0 [some (.ref hh), some (.int a1), some (.int a2), some (.int a3), some (.int a4), none] [] (SH, s) (none, (SH, τ)) := k_X2_write_r hh d h_hh hJ rfl
/-! IsHeIn$House.clerkAt(I)I -/
theorem srt52 : m_srt mc52 = true := by decide +kernel
def C_X2_clerkAt_2 (N : Nat) (xs : Nat → Int32) (hh : Nat) (s : mG) (d : Nat) (r : Option Value × mH) (C : (Int32) → Prop) : ((Int32 × Int32) ⊕ (Int32)) → Prop
  | .inl v => Rn N xs (d + 1) me52 2 [some (.ref hh), some (.int v.1), some (.int v.2), none] [] (SH, s) r
  | .inr a => C a
def F_X2_clerkAt_73 (hh : Nat) (s : mG) (x1 : Int32) (x2 : Int32) : Option ((Int32 × Int32) ⊕ (Int32)) :=
  some (Sum.inl (x1, (x2 + ci 1)))
set_option maxRecDepth 4000 in
theorem k_X2_clerkAt_73 {N : Nat} {xs : Nat → Int32} (hh : Nat) (d : Nat) (h_hh : isH hh) {r : Option Value × mH} {s : mG} {x1 : Int32} {x2 : Int32} {τ : ((Int32 × Int32) ⊕ (Int32))} (hJ : F_X2_clerkAt_73 hh s x1 x2 = some τ) (hC : (C_X2_clerkAt_2 N xs hh s d r (fun τ => r = (some (.int τ), (SH, s)))) τ) : Rn N xs (d + 1) me52 73 [some (.ref hh), some (.int x1), some (.int x2), none] [] (SH, s) r := by
  unfold F_X2_clerkAt_73 at hJ
  refine Rn_sq srt52 42 2 (pc' := 2) (ls' := [some (.ref hh), some (.int x1), some (.int (x2 + ci 1)), none]) (st' := []) (h1 := (SH, s)) rfl ?_
  rw [← Option.some.inj hJ] at hC
  exact hC
def F_X2_clerkAt_B2 (hh : Nat) (s : mG) (x1 : Int32) (x2 : Int32) : Option ((Int32 × Int32) ⊕ (Int32)) :=
  if (s.1 (hh + 11) 3) ≤ x2 then
    some (Sum.inr (ci (-1)))
  else
    b1 (F_X10_at (hh + 11) s x2 (ci 1)) fun v3 =>
    let v4 : Int32 := (rm (((rm (s.1 hh 10) (c8 24)) + (c8 24)) - v3) (c8 24))
    b1 (F_X10_at (hh + 11) s x2 (ci 3)) fun v6 =>
    if v6 = x1 then
      b1 (F_X10_at (hh + 11) s x2 (ci 2)) fun v9 =>
      if v9 ≤ v4 then
        F_X2_clerkAt_73 hh s x1 x2
      else
        b1 (F_X10_at (hh + 11) s x2 (ci 0)) fun v12 =>
        some (Sum.inr v12)
    else
      F_X2_clerkAt_73 hh s x1 x2
set_option maxRecDepth 4000 in
theorem k_X2_clerkAt_B2 {N : Nat} {xs : Nat → Int32} (hh : Nat) (d : Nat) (h_hh : isH hh) {r : Option Value × mH} {s : mG} {x1 : Int32} {x2 : Int32} {τ : ((Int32 × Int32) ⊕ (Int32))} (hJ : F_X2_clerkAt_B2 hh s x1 x2 = some τ) (hC : (C_X2_clerkAt_2 N xs hh s d r (fun τ => r = (some (.int τ), (SH, s)))) τ) : Rn N xs (d + 1) me52 2 [some (.ref hh), some (.int x1), some (.int x2), none] [] (SH, s) r := by
  unfold F_X2_clerkAt_B2 at hJ
  refine Rn_sq srt52 2 2 (pc' := 4) (ls' := [some (.ref hh), some (.int x1), some (.int x2), none]) (st' := [(.ref hh), (.int x2)]) (h1 := (SH, s)) rfl ?_
  refine Rn_ev srt52 4 rfl rfl rfl (op_gfH5 h_hh) ?_
  refine Rn_ev srt52 5 rfl rfl rfl (op_gfT3 (isH_t h_hh 5 (by decide))) ?_
  refine Rn_sq srt52 6 1 (pc' := (if (s.1 (hh + 11) 3) ≤ x2 then 79 else 13)) (ls' := [some (.ref hh), some (.int x1), some (.int x2), none]) (st' := []) (h1 := (SH, s)) rfl (Rn_if (fun h1 => ?_) (fun h1 => ?_))
  · replace hJ := m_ifp h1 hJ
    refine Rn_sq srt52 44 1 (pc' := 80) (ls' := [some (.ref hh), some (.int x1), some (.int x2), none]) (st' := [(.int (ci (-1)))]) (h1 := (SH, s)) rfl ?_
    rw [← Option.some.inj hJ] at hC
    have hC : r = (some (.int (ci (-1))), (SH, s)) := hC
    subst hC
    exact Rn_ret srt52 45 rfl rfl rfl
  · replace hJ := m_ifn h1 hJ
    refine Rn_sq srt52 7 1 (pc' := 14) (ls' := [some (.ref hh), some (.int x1), some (.int x2), none]) (st' := [(.ref hh)]) (h1 := (SH, s)) rfl ?_
    refine Rn_ev srt52 8 rfl rfl rfl (op_gfH10 h_hh) ?_
    refine Rn_sq srt52 9 1 (pc' := 19) (ls' := [some (.ref hh), some (.int x1), some (.int x2), none]) (st' := [(.int (c8 24)), (.int (s.1 hh 10))]) (h1 := (SH, s)) rfl ?_
    refine Rn_ev srt52 10 rfl rfl rfl (op_irem (by decide)) ?_
    refine Rn_sq srt52 11 3 (pc' := 24) (ls' := [some (.ref hh), some (.int x1), some (.int x2), none]) (st' := [(.ref hh), (.int ((rm (s.1 hh 10) (c8 24)) + (c8 24)))]) (h1 := (SH, s)) rfl ?_
    refine Rn_ev srt52 14 rfl rfl rfl (op_gfH5 h_hh) ?_
    refine Rn_sq srt52 15 2 (pc' := 29) (ls' := [some (.ref hh), some (.int x1), some (.int x2), none]) (st' := [(.int (ci 1)), (.int x2), (.ref (hh + 11)), (.int ((rm (s.1 hh 10) (c8 24)) + (c8 24)))]) (h1 := (SH, s)) rfl ?_
    obtain ⟨v3, h2, hJ⟩ := m_b1 hJ
    refine Rn_call srt52 17 rfl rfl rfl ⟨Nat.le_of_ble_eq_true rfl, Nat.le_of_ble_eq_true rfl, (recv_T (isH_t h_hh 5 (by decide))), Nat.le_of_ble_eq_true rfl⟩ (k_X10_at (hh + 11) (d) (isH_t h_hh 5 (by decide)) h2) (show Rn N xs (d + 1) me52 32 [some (.ref hh), some (.int x1), some (.int x2), none] [(.int v3), (.int ((rm (s.1 hh 10) (c8 24)) + (c8 24)))] (SH, s) r from ?_)
    refine Rn_sq srt52 18 2 (pc' := 35) (ls' := [some (.ref hh), some (.int x1), some (.int x2), none]) (st' := [(.int (c8 24)), (.int (((rm (s.1 hh 10) (c8 24)) + (c8 24)) - v3))]) (h1 := (SH, s)) rfl ?_
    refine Rn_ev srt52 20 rfl rfl rfl (op_irem (by decide)) ?_
    extract_lets +onlyGivenNames v4 at hJ
    refine Rn_sq srt52 21 2 (pc' := 38) (ls' := [some (.ref hh), some (.int x1), some (.int x2), some (.int v4)]) (st' := [(.ref hh)]) (h1 := (SH, s)) rfl ?_
    refine Rn_ev srt52 23 rfl rfl rfl (op_gfH5 h_hh) ?_
    refine Rn_sq srt52 24 2 (pc' := 43) (ls' := [some (.ref hh), some (.int x1), some (.int x2), some (.int v4)]) (st' := [(.int (ci 3)), (.int x2), (.ref (hh + 11))]) (h1 := (SH, s)) rfl ?_
    obtain ⟨v6, h5, hJ⟩ := m_b1 hJ
    refine Rn_call srt52 26 rfl rfl rfl ⟨Nat.le_of_ble_eq_true rfl, Nat.le_of_ble_eq_true rfl, (recv_T (isH_t h_hh 5 (by decide))), Nat.le_of_ble_eq_true rfl⟩ (k_X10_at (hh + 11) (d) (isH_t h_hh 5 (by decide)) h5) (show Rn N xs (d + 1) me52 46 [some (.ref hh), some (.int x1), some (.int x2), some (.int v4)] [(.int v6)] (SH, s) r from ?_)
    refine Rn_sq srt52 27 2 (pc' := (if v6 = x1 then 50 else 73)) (ls' := [some (.ref hh), some (.int x1), some (.int x2), some (.int v4)]) (st' := []) (h1 := (SH, s)) rfl (Rn_if (fun h7 => ?_) (fun h7 => ?_))
    · replace hJ := m_ifp h7 hJ
      refine Rn_sq srt52 29 2 (pc' := 52) (ls' := [some (.ref hh), some (.int x1), some (.int x2), some (.int v4)]) (st' := [(.ref hh), (.int v4)]) (h1 := (SH, s)) rfl ?_
      refine Rn_ev srt52 31 rfl rfl rfl (op_gfH5 h_hh) ?_
      refine Rn_sq srt52 32 2 (pc' := 57) (ls' := [some (.ref hh), some (.int x1), some (.int x2), some (.int v4)]) (st' := [(.int (ci 2)), (.int x2), (.ref (hh + 11)), (.int v4)]) (h1 := (SH, s)) rfl ?_
      obtain ⟨v9, h8, hJ⟩ := m_b1 hJ
      refine Rn_call srt52 34 rfl rfl rfl ⟨Nat.le_of_ble_eq_true rfl, Nat.le_of_ble_eq_true rfl, (recv_T (isH_t h_hh 5 (by decide))), Nat.le_of_ble_eq_true rfl⟩ (k_X10_at (hh + 11) (d) (isH_t h_hh 5 (by decide)) h8) (show Rn N xs (d + 1) me52 60 [some (.ref hh), some (.int x1), some (.int x2), some (.int v4)] [(.int v9), (.int v4)] (SH, s) r from ?_)
      refine Rn_sq srt52 35 1 (pc' := (if v9 ≤ v4 then 73 else 63)) (ls' := [some (.ref hh), some (.int x1), some (.int x2), some (.int v4)]) (st' := []) (h1 := (SH, s)) rfl (Rn_if (fun h10 => ?_) (fun h10 => ?_))
      · replace hJ := m_ifp h10 hJ
        exact Rn_weaken (a := [some (.ref hh), some (.int x1), some (.int x2), none]) (b := [some (.ref hh), some (.int x1), some (.int x2), some (.int v4)]) (And.intro rfl (And.intro rfl (And.intro rfl trivial))) rfl (k_X2_clerkAt_73 hh d h_hh hJ hC)
      · replace hJ := m_ifn h10 hJ
        refine Rn_sq srt52 36 1 (pc' := 64) (ls' := [some (.ref hh), some (.int x1), some (.int x2), some (.int v4)]) (st' := [(.ref hh)]) (h1 := (SH, s)) rfl ?_
        refine Rn_ev srt52 37 rfl rfl rfl (op_gfH5 h_hh) ?_
        refine Rn_sq srt52 38 2 (pc' := 69) (ls' := [some (.ref hh), some (.int x1), some (.int x2), some (.int v4)]) (st' := [(.int (ci 0)), (.int x2), (.ref (hh + 11))]) (h1 := (SH, s)) rfl ?_
        obtain ⟨v12, h11, hJ⟩ := m_b1 hJ
        refine Rn_call srt52 40 rfl rfl rfl ⟨Nat.le_of_ble_eq_true rfl, Nat.le_of_ble_eq_true rfl, (recv_T (isH_t h_hh 5 (by decide))), Nat.le_of_ble_eq_true rfl⟩ (k_X10_at (hh + 11) (d) (isH_t h_hh 5 (by decide)) h11) (show Rn N xs (d + 1) me52 72 [some (.ref hh), some (.int x1), some (.int x2), some (.int v4)] [(.int v12)] (SH, s) r from ?_)
        rw [← Option.some.inj hJ] at hC
        have hC : r = (some (.int v12), (SH, s)) := hC
        subst hC
        exact Rn_ret srt52 41 rfl rfl rfl
    · replace hJ := m_ifn h7 hJ
      exact Rn_weaken (a := [some (.ref hh), some (.int x1), some (.int x2), none]) (b := [some (.ref hh), some (.int x1), some (.int x2), some (.int v4)]) (And.intro rfl (And.intro rfl (And.intro rfl trivial))) rfl (k_X2_clerkAt_73 hh d h_hh hJ hC)
def F_X2_clerkAt_L2 (hh : Nat) (s : mG) (x1 : Int32) (x2 : Int32) : Option (Int32) := whl (fun (v : (Int32 × Int32)) => F_X2_clerkAt_B2 hh s v.1 v.2) (x1, x2)
theorem k_X2_clerkAt_L2 {N : Nat} {xs : Nat → Int32} (hh : Nat) (d : Nat) (h_hh : isH hh) {r : Option Value × mH} {s : mG} {x1 : Int32} {x2 : Int32} {τ : (Int32)} (hJ : F_X2_clerkAt_L2 hh s x1 x2 = some τ) (hC : (fun τ => r = (some (.int τ), (SH, s))) τ) : Rn N xs (d + 1) me52 2 [some (.ref hh), some (.int x1), some (.int x2), none] [] (SH, s) r :=
  whl_link (P := fun (v : (Int32 × Int32)) => Rn N xs (d + 1) me52 2 [some (.ref hh), some (.int v.1), some (.int v.2), none] [] (SH, s) r) (C := (C_X2_clerkAt_2 N xs hh s d r (fun τ => r = (some (.int τ), (SH, s))))) (fun v τ h1 h2 => k_X2_clerkAt_B2 hh d h_hh h1 h2) (fun _ h => h) (fun _ h => h) _ _ hJ hC
def F_X2_clerkAt (hh : Nat) (s : mG) (a1 : Int32) : Option (Int32) :=
  F_X2_clerkAt_L2 hh s a1 (ci 0)
set_option maxRecDepth 4000 in
theorem k_X2_clerkAt_r {N : Nat} {xs : Nat → Int32} (hh : Nat) (d : Nat) (h_hh : isH hh) {r : Option Value × mH} {s : mG} {a1 : Int32} {τ : (Int32)} (hJ : F_X2_clerkAt hh s a1 = some τ) (hC : (fun τ => r = (some (.int τ), (SH, s))) τ) : Rn N xs (d + 1) me52 0 [some (.ref hh), some (.int a1), none, none] [] (SH, s) r := by
  unfold F_X2_clerkAt at hJ
  refine Rn_sq srt52 0 2 (pc' := 2) (ls' := [some (.ref hh), some (.int a1), some (.int (ci 0)), none]) (st' := []) (h1 := (SH, s)) rfl ?_
  exact (k_X2_clerkAt_L2 hh d h_hh hJ hC)
theorem k_X2_clerkAt {N : Nat} {xs : Nat → Int32} (hh : Nat) (d : Nat) (h_hh : isH hh) {s : mG} {a1 : Int32} {τ : (Int32)} (hJ : F_X2_clerkAt hh s a1 = some τ) : Rn N xs (d + 1) me52 0 [some (.ref hh), some (.int a1), none, none] [] (SH, s) (some (.int τ), (SH, s)) := k_X2_clerkAt_r hh d h_hh hJ rfl
/-! IsHeIn$Moment.takeFrom(LIsHeIn$House;)V -/
theorem srt61 : m_srt mc61 = true := by decide +kernel
def F_X4_takeFrom (mo : Nat) (a1 : Nat) (s : mG) : Option (mG) :=
  b1 (F_X10_copyFrom (mo + 1) (a1 + 1) s) fun s2 =>
  let s3 : mG := (mu s2.1 mo 1 (s2.1 (a1 + 3) 3), s2.2)
  let s4 : mG := (mu s3.1 mo 2 (s3.1 a1 10), s3.2)
  let s5 : mG := (mu s4.1 mo 3 (s4.1 a1 11), s4.2)
  some s5
set_option maxRecDepth 4000 in
theorem k_X4_takeFrom_r {N : Nat} {xs : Nat → Int32} (mo : Nat) (a1 : Nat) (d : Nat) (h_mo : isM mo) (h_a1 : isH a1) {r : Option Value × mH} {s : mG} {τ : (mG)} (hJ : F_X4_takeFrom mo a1 s = some τ) (hC : (fun τ => r = (none, (SH, τ))) τ) : Rn N xs (d + 1) me61 0 [some (.ref mo), some (.ref a1)] [] (SH, s) r := by
  unfold F_X4_takeFrom at hJ
  refine Rn_sq srt61 0 1 (pc' := 1) (ls' := [some (.ref mo), some (.ref a1)]) (st' := [(.ref mo)]) (h1 := (SH, s)) rfl ?_
  refine Rn_ev srt61 1 rfl rfl rfl (op_gfM0 h_mo) ?_
  refine Rn_sq srt61 2 1 (pc' := 5) (ls' := [some (.ref mo), some (.ref a1)]) (st' := [(.ref a1), (.ref (mo + 1))]) (h1 := (SH, s)) rfl ?_
  refine Rn_ev srt61 3 rfl rfl rfl (op_gfH0 h_a1) ?_
  obtain ⟨s2, h1, hJ⟩ := m_b1 hJ
  refine Rn_call srt61 4 rfl rfl rfl ⟨Nat.le_of_ble_eq_true rfl, Nat.le_of_ble_eq_true rfl, (recv_T h_mo.2), Nat.le_of_ble_eq_true rfl⟩ (k_X10_copyFrom (mo + 1) (a1 + 1) (d) h_mo.2 (isH_t h_a1 0 (by decide)) h1) (show Rn N xs (d + 1) me61 11 [some (.ref mo), some (.ref a1)] [] (SH, s2) r from ?_)
  refine Rn_sq srt61 5 2 (pc' := 13) (ls' := [some (.ref mo), some (.ref a1)]) (st' := [(.ref a1), (.ref mo)]) (h1 := (SH, s2)) rfl ?_
  refine Rn_ev srt61 7 rfl rfl rfl (op_gfH1 h_a1) ?_
  refine Rn_ev srt61 8 rfl rfl rfl (op_gfT3 (isH_t h_a1 1 (by decide))) ?_
  extract_lets +onlyGivenNames s3 at hJ
  refine Rn_ev srt61 9 rfl rfl rfl (op_pfM1 h_mo) ?_
  refine Rn_sq srt61 10 2 (pc' := 24) (ls' := [some (.ref mo), some (.ref a1)]) (st' := [(.ref a1), (.ref mo)]) (h1 := (SH, s3)) rfl ?_
  refine Rn_ev srt61 12 rfl rfl rfl (op_gfH10 h_a1) ?_
  extract_lets +onlyGivenNames s4 at hJ
  refine Rn_ev srt61 13 rfl rfl rfl (op_pfM2 h_mo) ?_
  refine Rn_sq srt61 14 2 (pc' := 32) (ls' := [some (.ref mo), some (.ref a1)]) (st' := [(.ref a1), (.ref mo)]) (h1 := (SH, s4)) rfl ?_
  refine Rn_ev srt61 16 rfl rfl rfl (op_gfH11 h_a1) ?_
  extract_lets +onlyGivenNames s5 at hJ
  refine Rn_ev srt61 17 rfl rfl rfl (op_pfM3 h_mo) ?_
  rw [← Option.some.inj hJ] at hC
  have hC : r = (none, (SH, s5)) := hC
  subst hC
  exact Rn_ret srt61 18 rfl rfl rfl
theorem k_X4_takeFrom {N : Nat} {xs : Nat → Int32} (mo : Nat) (a1 : Nat) (d : Nat) (h_mo : isM mo) (h_a1 : isH a1) {s : mG} {τ : (mG)} (hJ : F_X4_takeFrom mo a1 s = some τ) : Rn N xs (d + 1) me61 0 [some (.ref mo), some (.ref a1)] [] (SH, s) (none, (SH, τ)) := k_X4_takeFrom_r mo a1 d h_mo h_a1 hJ rfl
/-! IsHeIn$Moment.giveTo(LIsHeIn$House;)V -/
theorem srt62 : m_srt mc62 = true := by decide +kernel
def F_X4_giveTo (mo : Nat) (a1 : Nat) (s : mG) : Option (mG) :=
  b1 (F_X10_copyFrom (a1 + 1) (mo + 1) s) fun s2 =>
  let s3 : mG := (mu s2.1 (a1 + 3) 3 (imin (s2.1 mo 1) (s2.1 (a1 + 3) 3)), s2.2)
  let s4 : mG := (mu s3.1 a1 10 (s3.1 mo 2), s3.2)
  let s5 : mG := (mu s4.1 a1 11 (s4.1 mo 3), s4.2)
  some s5
set_option maxRecDepth 4000 in
theorem k_X4_giveTo_r {N : Nat} {xs : Nat → Int32} (mo : Nat) (a1 : Nat) (d : Nat) (h_mo : isM mo) (h_a1 : isH a1) {r : Option Value × mH} {s : mG} {τ : (mG)} (hJ : F_X4_giveTo mo a1 s = some τ) (hC : (fun τ => r = (none, (SH, τ))) τ) : Rn N xs (d + 1) me62 0 [some (.ref mo), some (.ref a1)] [] (SH, s) r := by
  unfold F_X4_giveTo at hJ
  refine Rn_sq srt62 0 1 (pc' := 1) (ls' := [some (.ref mo), some (.ref a1)]) (st' := [(.ref a1)]) (h1 := (SH, s)) rfl ?_
  refine Rn_ev srt62 1 rfl rfl rfl (op_gfH0 h_a1) ?_
  refine Rn_sq srt62 2 1 (pc' := 5) (ls' := [some (.ref mo), some (.ref a1)]) (st' := [(.ref mo), (.ref (a1 + 1))]) (h1 := (SH, s)) rfl ?_
  refine Rn_ev srt62 3 rfl rfl rfl (op_gfM0 h_mo) ?_
  obtain ⟨s2, h1, hJ⟩ := m_b1 hJ
  refine Rn_call srt62 4 rfl rfl rfl ⟨Nat.le_of_ble_eq_true rfl, Nat.le_of_ble_eq_true rfl, (recv_T (isH_t h_a1 0 (by decide))), Nat.le_of_ble_eq_true rfl⟩ (k_X10_copyFrom (a1 + 1) (mo + 1) (d) (isH_t h_a1 0 (by decide)) h_mo.2 h1) (show Rn N xs (d + 1) me62 11 [some (.ref mo), some (.ref a1)] [] (SH, s2) r from ?_)
  refine Rn_sq srt62 5 1 (pc' := 12) (ls' := [some (.ref mo), some (.ref a1)]) (st' := [(.ref a1)]) (h1 := (SH, s2)) rfl ?_
  refine Rn_ev srt62 6 rfl rfl rfl (op_gfH1 h_a1) ?_
  refine Rn_sq srt62 7 1 (pc' := 16) (ls' := [some (.ref mo), some (.ref a1)]) (st' := [(.ref mo), (.ref (a1 + 3))]) (h1 := (SH, s2)) rfl ?_
  refine Rn_ev srt62 8 rfl rfl rfl (op_gfM1 h_mo) ?_
  refine Rn_sq srt62 9 1 (pc' := 20) (ls' := [some (.ref mo), some (.ref a1)]) (st' := [(.ref a1), (.int (s2.1 mo 1)), (.ref (a1 + 3))]) (h1 := (SH, s2)) rfl ?_
  refine Rn_ev srt62 10 rfl rfl rfl (op_gfH1 h_a1) ?_
  refine Rn_ev srt62 11 rfl rfl rfl (op_gfT3 (isH_t h_a1 1 (by decide))) ?_
  refine Rn_sq srt62 12 1 (pc' := 29) (ls' := [some (.ref mo), some (.ref a1)]) (st' := [(.int (imin (s2.1 mo 1) (s2.1 (a1 + 3) 3))), (.ref (a1 + 3))]) (h1 := (SH, s2)) rfl ?_
  extract_lets +onlyGivenNames s3 at hJ
  refine Rn_ev srt62 13 rfl rfl rfl (op_pfT3 (isH_t h_a1 1 (by decide))) ?_
  refine Rn_sq srt62 14 2 (pc' := 34) (ls' := [some (.ref mo), some (.ref a1)]) (st' := [(.ref mo), (.ref a1)]) (h1 := (SH, s3)) rfl ?_
  refine Rn_ev srt62 16 rfl rfl rfl (op_gfM2 h_mo) ?_
  extract_lets +onlyGivenNames s4 at hJ
  refine Rn_ev srt62 17 rfl rfl rfl (op_pfH10 h_a1) ?_
  refine Rn_sq srt62 18 2 (pc' := 42) (ls' := [some (.ref mo), some (.ref a1)]) (st' := [(.ref mo), (.ref a1)]) (h1 := (SH, s4)) rfl ?_
  refine Rn_ev srt62 20 rfl rfl rfl (op_gfM3 h_mo) ?_
  extract_lets +onlyGivenNames s5 at hJ
  refine Rn_ev srt62 21 rfl rfl rfl (op_pfH11 h_a1) ?_
  rw [← Option.some.inj hJ] at hC
  have hC : r = (none, (SH, s5)) := hC
  subst hC
  exact Rn_ret srt62 22 rfl rfl rfl
theorem k_X4_giveTo {N : Nat} {xs : Nat → Int32} (mo : Nat) (a1 : Nat) (d : Nat) (h_mo : isM mo) (h_a1 : isH a1) {s : mG} {τ : (mG)} (hJ : F_X4_giveTo mo a1 s = some τ) : Rn N xs (d + 1) me62 0 [some (.ref mo), some (.ref a1)] [] (SH, s) (none, (SH, τ)) := k_X4_giveTo_r mo a1 d h_mo h_a1 hJ rfl
/-! IsHeIn$Past.forget()V -/
theorem srt64 : m_srt mc64 = true := by decide +kernel
def F_X5_forget (s : mG) : Option (mG) :=
  let s1 : mG := (mu s.1 35 1 (ci 0), s.2)
  some s1
set_option maxRecDepth 4000 in
theorem k_X5_forget_r {N : Nat} {xs : Nat → Int32} (d : Nat) {r : Option Value × mH} {s : mG} {τ : (mG)} (hJ : F_X5_forget s = some τ) (hC : (fun τ => r = (none, (SH, τ))) τ) : Rn N xs (d + 0) me64 0 [some (.ref 35)] [] (SH, s) r := by
  unfold F_X5_forget at hJ
  extract_lets +onlyGivenNames s1 at hJ
  refine Rn_sq srt64 0 3 (pc' := 5) (ls' := [some (.ref 35)]) (st' := []) (h1 := (SH, s1)) rfl ?_
  rw [← Option.some.inj hJ] at hC
  have hC : r = (none, (SH, s1)) := hC
  subst hC
  exact Rn_ret srt64 3 rfl rfl rfl
theorem k_X5_forget {N : Nat} {xs : Nat → Int32} (d : Nat) {s : mG} {τ : (mG)} (hJ : F_X5_forget s = some τ) : Rn N xs (d + 0) me64 0 [some (.ref 35)] [] (SH, s) (none, (SH, τ)) := k_X5_forget_r d hJ rfl
/-! IsHeIn$Past.momentAt(I)LIsHeIn$Moment; -/
theorem srt67 : m_srt mc67 = true := by decide +kernel
def F_X5_momentAt_22 (s : mG) : Option (Option Nat) :=
  some none
set_option maxRecDepth 4000 in
theorem k_X5_momentAt_22 {N : Nat} {xs : Nat → Int32} (d : Nat) {r : Option Value × mH} {s : mG} {τ : (Option Nat)} (hJ : F_X5_momentAt_22 s = some τ) (hC : (fun τ => r = (optv τ, (SH, s))) τ) : Rn N xs (d + 0) me67 22 [none, none] [] (SH, s) r := by
  unfold F_X5_momentAt_22 at hJ
  refine Rn_sq srt67 12 1 (pc' := 23) (ls' := [none, none]) (st' := [.null]) (h1 := (SH, s)) rfl ?_
  rw [← Option.some.inj hJ] at hC
  have hC : r = (some .null, (SH, s)) := hC
  subst hC
  exact Rn_ret srt67 13 rfl rfl rfl
def F_X5_momentAt (s : mG) (a1 : Int32) : Option (Option Nat) :=
  if a1 < 0 then
    F_X5_momentAt_22 s
  else
    if (cn 6) ≤ a1 then
      F_X5_momentAt_22 s
    else
      if a1 < 0 ∨ 6 ≤ a1.toNatClampNeg then none else
      some (some (37 + 3 * a1.toNatClampNeg))
set_option maxRecDepth 4000 in
theorem k_X5_momentAt_r {N : Nat} {xs : Nat → Int32} (d : Nat) {r : Option Value × mH} {s : mG} {a1 : Int32} {τ : (Option Nat)} (hJ : F_X5_momentAt s a1 = some τ) (hC : (fun τ => r = (optv τ, (SH, s))) τ) : Rn N xs (d + 0) me67 0 [some (.ref 35), some (.int a1)] [] (SH, s) r := by
  unfold F_X5_momentAt at hJ
  refine Rn_sq srt67 0 2 (pc' := (if a1 < 0 then 22 else 4)) (ls' := [some (.ref 35), some (.int a1)]) (st' := []) (h1 := (SH, s)) rfl (Rn_if (fun h1 => ?_) (fun h1 => ?_))
  · replace hJ := m_ifp h1 hJ
    exact Rn_weaken (a := [none, none]) (b := [some (.ref 35), some (.int a1)]) trivial rfl (k_X5_momentAt_22 d hJ hC)
  · replace hJ := m_ifn h1 hJ
    refine Rn_sq srt67 2 5 (pc' := (if (cn 6) ≤ a1 then 22 else 13)) (ls' := [some (.ref 35), some (.int a1)]) (st' := []) (h1 := (SH, s)) rfl (Rn_if (fun h2 => ?_) (fun h2 => ?_))
    · replace hJ := m_ifp h2 hJ
      exact Rn_weaken (a := [none, none]) (b := [some (.ref 35), some (.int a1)]) trivial rfl (k_X5_momentAt_22 d hJ hC)
    · replace hJ := m_ifn h2 hJ
      refine Rn_sq srt67 7 3 (pc' := 18) (ls' := [some (.ref 35), some (.int a1)]) (st' := [(.int a1), (.ref 36)]) (h1 := (SH, s)) rfl ?_
      obtain ⟨h3, hJ⟩ := m_gn hJ
      refine Rn_ev srt67 10 rfl rfl rfl (op_aa h3) ?_
      refine Rn_sq srt67 11 1 (pc' := 23) (ls' := [some (.ref 35), some (.int a1)]) (st' := [(.ref (37 + 3 * a1.toNatClampNeg))]) (h1 := (SH, s)) rfl ?_
      rw [← Option.some.inj hJ] at hC
      have hC : r = (some (.ref (37 + 3 * a1.toNatClampNeg)), (SH, s)) := hC
      subst hC
      exact Rn_ret srt67 13 rfl rfl rfl
theorem k_X5_momentAt {N : Nat} {xs : Nat → Int32} (d : Nat) {s : mG} {a1 : Int32} {τ : (Option Nat)} (hJ : F_X5_momentAt s a1 = some τ) : Rn N xs (d + 0) me67 0 [some (.ref 35), some (.int a1)] [] (SH, s) (optv τ, (SH, s)) := k_X5_momentAt_r d hJ rfl
theorem momM {s : mG} {i : Int32} {o : Nat} (h : F_X5_momentAt s i = some (some o)) : isM o := by
  unfold F_X5_momentAt F_X5_momentAt_22 at h
  split at h
  · cases h
  split at h
  · cases h
  split at h
  · cases h
  rename_i h1
  have hk : i.toNatClampNeg < 6 := Nat.not_le.mp fun q => h1 (Or.inr q)
  have ho : 37 + 3 * i.toNatClampNeg = o := Option.some.inj (Option.some.inj h)
  rw [← ho]
  generalize i.toNatClampNeg = k at hk
  match k, hk with
  | 0, _ => exact isM_37
  | 1, _ => exact isM_40
  | 2, _ => exact isM_43
  | 3, _ => exact isM_46
  | 4, _ => exact isM_49
  | 5, _ => exact isM_52
/-! IsHeIn$Past.keep(LIsHeIn$House;)V -/
theorem srt65 : m_srt mc65 = true := by decide +kernel
def F_X5_keep (a1 : Nat) (s : mG) : Option (mG) :=
  bo (F_X5_momentAt s (s.1 35 2)) (
    some s
  ) fun o2 =>
    b1 (F_X4_takeFrom o2 a1 s) fun s4 =>
    let s5 : mG := (mu s4.1 35 2 (rm ((s4.1 35 2) + (ci 1)) (c8 6)), s4.2)
    let s6 : mG := (mu s5.1 35 1 (imin ((s5.1 35 1) + (ci 1)) (c8 6)), s5.2)
    some s6
set_option maxRecDepth 4000 in
theorem k_X5_keep_r {N : Nat} {xs : Nat → Int32} (a1 : Nat) (d : Nat) (h_a1 : isH a1) {r : Option Value × mH} {s : mG} {τ : (mG)} (hJ : F_X5_keep a1 s = some τ) (hC : (fun τ => r = (none, (SH, τ))) τ) : Rn N xs (d + 2) me65 0 [some (.ref 35), some (.ref a1), none] [] (SH, s) r := by
  unfold F_X5_keep at hJ
  refine Rn_sq srt65 0 3 (pc' := 5) (ls' := [some (.ref 35), some (.ref a1), none]) (st' := [(.int (s.1 35 2)), (.ref 35)]) (h1 := (SH, s)) rfl ?_
  rcases m_bo hJ with ⟨h1, hJ⟩ | ⟨o2, h1, hJ⟩
  · refine Rn_call srt65 3 rfl rfl rfl ⟨Nat.le_of_ble_eq_true rfl, Nat.le_of_ble_eq_true rfl, rfl, Nat.le_of_ble_eq_true rfl⟩ (k_X5_momentAt (d + 1) h1) (show Rn N xs (d + 2) me65 8 [some (.ref 35), some (.ref a1), none] [.null] (SH, s) r from ?_)
    refine Rn_sq srt65 4 3 (pc' := 13) (ls' := [some (.ref 35), some (.ref a1), some .null]) (st' := []) (h1 := (SH, s)) rfl ?_
    rw [← Option.some.inj hJ] at hC
    have hC : r = (none, (SH, s)) := hC
    subst hC
    exact Rn_ret srt65 7 rfl rfl rfl
  · refine Rn_call srt65 3 rfl rfl rfl ⟨Nat.le_of_ble_eq_true rfl, Nat.le_of_ble_eq_true rfl, rfl, Nat.le_of_ble_eq_true rfl⟩ (k_X5_momentAt (d + 1) h1) (show Rn N xs (d + 2) me65 8 [some (.ref 35), some (.ref a1), none] [(.ref o2)] (SH, s) r from ?_)
    refine Rn_sq srt65 4 3 (pc' := 14) (ls' := [some (.ref 35), some (.ref a1), some (.ref o2)]) (st' := []) (h1 := (SH, s)) rfl ?_
    refine Rn_sq srt65 8 2 (pc' := 16) (ls' := [some (.ref 35), some (.ref a1), some (.ref o2)]) (st' := [(.ref a1), (.ref o2)]) (h1 := (SH, s)) rfl ?_
    obtain ⟨s4, h3, hJ⟩ := m_b1 hJ
    refine Rn_call srt65 10 rfl rfl rfl ⟨Nat.le_of_ble_eq_true rfl, Nat.le_of_ble_eq_true rfl, (recv_M (momM h1)), Nat.le_of_ble_eq_true rfl⟩ (k_X4_takeFrom o2 a1 (d) (momM h1) h_a1 h3) (show Rn N xs (d + 2) me65 19 [some (.ref 35), some (.ref a1), some (.ref o2)] [] (SH, s4) r from ?_)
    refine Rn_sq srt65 11 6 (pc' := 28) (ls' := [some (.ref 35), some (.ref a1), some (.ref o2)]) (st' := [(.int (c8 6)), (.int ((s4.1 35 2) + (ci 1))), (.ref 35)]) (h1 := (SH, s4)) rfl ?_
    refine Rn_ev srt65 17 rfl rfl rfl (op_irem (by decide)) ?_
    extract_lets +onlyGivenNames s5 at hJ
    extract_lets +onlyGivenNames s6 at hJ
    refine Rn_sq srt65 18 9 (pc' := 47) (ls' := [some (.ref 35), some (.ref a1), some (.ref o2)]) (st' := []) (h1 := (SH, s6)) rfl ?_
    rw [← Option.some.inj hJ] at hC
    have hC : r = (none, (SH, s6)) := hC
    subst hC
    exact Rn_ret srt65 27 rfl rfl rfl
theorem k_X5_keep {N : Nat} {xs : Nat → Int32} (a1 : Nat) (d : Nat) (h_a1 : isH a1) {s : mG} {τ : (mG)} (hJ : F_X5_keep a1 s = some τ) : Rn N xs (d + 2) me65 0 [some (.ref 35), some (.ref a1), none] [] (SH, s) (none, (SH, τ)) := k_X5_keep_r a1 d h_a1 hJ rfl
/-! IsHeIn$Past.giveBack(LIsHeIn$House;)Z -/
theorem srt66 : m_srt mc66 = true := by decide +kernel
def F_X5_giveBack_30 (a1 : Nat) (s : mG) : Option (Int32 × mG) :=
  some ((ci 0), s)
set_option maxRecDepth 4000 in
theorem k_X5_giveBack_30 {N : Nat} {xs : Nat → Int32} (a1 : Nat) (d : Nat) (h_a1 : isH a1) {r : Option Value × mH} {s : mG} {τ : (Int32 × mG)} (hJ : F_X5_giveBack_30 a1 s = some τ) (hC : (fun τ => r = (some (.int τ.1), (SH, τ.2))) τ) : Rn N xs (d + 2) me66 30 [none, none, none, none] [] (SH, s) r := by
  unfold F_X5_giveBack_30 at hJ
  refine Rn_sq srt66 18 1 (pc' := 31) (ls' := [none, none, none, none]) (st' := [(.int (ci 0))]) (h1 := (SH, s)) rfl ?_
  rw [← Option.some.inj hJ] at hC
  have hC : r = (some (.int (ci 0)), (SH, s)) := hC
  subst hC
  exact Rn_ret srt66 19 rfl rfl (m_ret_b rfl (by decide))
def F_X5_giveBack (a1 : Nat) (s : mG) : Option (Int32 × mG) :=
  let v1 : Int32 := (rm (((s.1 35 2) + (c8 6)) - (ci 1)) (c8 6))
  bo (F_X5_momentAt s v1) (
    if (s.1 35 1) = 0 then
      F_X5_giveBack_30 a1 s
    else
      F_X5_giveBack_30 a1 s
  ) fun o3 =>
    if (s.1 35 1) = 0 then
      F_X5_giveBack_30 a1 s
    else
      b1 (F_X4_giveTo o3 a1 s) fun s7 =>
      let s8 : mG := (mu s7.1 35 2 v1, s7.2)
      let s9 : mG := (mu s8.1 35 1 ((s8.1 35 1) - (ci 1)), s8.2)
      some ((ci 1), s9)
set_option maxRecDepth 4000 in
theorem k_X5_giveBack_r {N : Nat} {xs : Nat → Int32} (a1 : Nat) (d : Nat) (h_a1 : isH a1) {r : Option Value × mH} {s : mG} {τ : (Int32 × mG)} (hJ : F_X5_giveBack a1 s = some τ) (hC : (fun τ => r = (some (.int τ.1), (SH, τ.2))) τ) : Rn N xs (d + 2) me66 0 [some (.ref 35), some (.ref a1), none, none] [] (SH, s) r := by
  unfold F_X5_giveBack at hJ
  refine Rn_sq srt66 0 7 (pc' := 11) (ls' := [some (.ref 35), some (.ref a1), none, none]) (st' := [(.int (c8 6)), (.int (((s.1 35 2) + (c8 6)) - (ci 1)))]) (h1 := (SH, s)) rfl ?_
  refine Rn_ev srt66 7 rfl rfl rfl (op_irem (by decide)) ?_
  extract_lets +onlyGivenNames v1 at hJ
  refine Rn_sq srt66 8 3 (pc' := 15) (ls' := [some (.ref 35), some (.ref a1), some (.int v1), none]) (st' := [(.int v1), (.ref 35)]) (h1 := (SH, s)) rfl ?_
  rcases m_bo hJ with ⟨h2, hJ⟩ | ⟨o3, h2, hJ⟩
  · refine Rn_call srt66 11 rfl rfl rfl ⟨Nat.le_of_ble_eq_true rfl, Nat.le_of_ble_eq_true rfl, rfl, Nat.le_of_ble_eq_true rfl⟩ (k_X5_momentAt (d + 1) h2) (show Rn N xs (d + 2) me66 18 [some (.ref 35), some (.ref a1), some (.int v1), none] [.null] (SH, s) r from ?_)
    refine Rn_sq srt66 12 4 (pc' := (if (s.1 35 1) = 0 then 30 else 26)) (ls' := [some (.ref 35), some (.ref a1), some (.int v1), some .null]) (st' := []) (h1 := (SH, s)) rfl (Rn_if (fun h4 => ?_) (fun h4 => ?_))
    · replace hJ := m_ifp h4 hJ
      exact Rn_weaken (a := [none, none, none, none]) (b := [some (.ref 35), some (.ref a1), some (.int v1), some .null]) trivial rfl (k_X5_giveBack_30 a1 d h_a1 hJ hC)
    · replace hJ := m_ifn h4 hJ
      refine Rn_sq srt66 16 2 (pc' := 30) (ls' := [some (.ref 35), some (.ref a1), some (.int v1), some .null]) (st' := []) (h1 := (SH, s)) rfl ?_
      exact Rn_weaken (a := [none, none, none, none]) (b := [some (.ref 35), some (.ref a1), some (.int v1), some .null]) trivial rfl (k_X5_giveBack_30 a1 d h_a1 hJ hC)
  · refine Rn_call srt66 11 rfl rfl rfl ⟨Nat.le_of_ble_eq_true rfl, Nat.le_of_ble_eq_true rfl, rfl, Nat.le_of_ble_eq_true rfl⟩ (k_X5_momentAt (d + 1) h2) (show Rn N xs (d + 2) me66 18 [some (.ref 35), some (.ref a1), some (.int v1), none] [(.ref o3)] (SH, s) r from ?_)
    refine Rn_sq srt66 12 4 (pc' := (if (s.1 35 1) = 0 then 30 else 26)) (ls' := [some (.ref 35), some (.ref a1), some (.int v1), some (.ref o3)]) (st' := []) (h1 := (SH, s)) rfl (Rn_if (fun h5 => ?_) (fun h5 => ?_))
    · replace hJ := m_ifp h5 hJ
      exact Rn_weaken (a := [none, none, none, none]) (b := [some (.ref 35), some (.ref a1), some (.int v1), some (.ref o3)]) trivial rfl (k_X5_giveBack_30 a1 d h_a1 hJ hC)
    · replace hJ := m_ifn h5 hJ
      refine Rn_sq srt66 16 2 (pc' := 32) (ls' := [some (.ref 35), some (.ref a1), some (.int v1), some (.ref o3)]) (st' := []) (h1 := (SH, s)) rfl ?_
      refine Rn_sq srt66 20 2 (pc' := 34) (ls' := [some (.ref 35), some (.ref a1), some (.int v1), some (.ref o3)]) (st' := [(.ref a1), (.ref o3)]) (h1 := (SH, s)) rfl ?_
      obtain ⟨s7, h6, hJ⟩ := m_b1 hJ
      refine Rn_call srt66 22 rfl rfl rfl ⟨Nat.le_of_ble_eq_true rfl, Nat.le_of_ble_eq_true rfl, (recv_M (momM h2)), Nat.le_of_ble_eq_true rfl⟩ (k_X4_giveTo o3 a1 (d) (momM h2) h_a1 h6) (show Rn N xs (d + 2) me66 37 [some (.ref 35), some (.ref a1), some (.int v1), some (.ref o3)] [] (SH, s7) r from ?_)
      extract_lets +onlyGivenNames s8 at hJ
      extract_lets +onlyGivenNames s9 at hJ
      refine Rn_sq srt66 23 10 (pc' := 53) (ls' := [some (.ref 35), some (.ref a1), some (.int v1), some (.ref o3)]) (st' := [(.int (ci 1))]) (h1 := (SH, s9)) rfl ?_
      rw [← Option.some.inj hJ] at hC
      have hC : r = (some (.int (ci 1)), (SH, s9)) := hC
      subst hC
      exact Rn_ret srt66 33 rfl rfl (m_ret_b rfl (by decide))
theorem k_X5_giveBack {N : Nat} {xs : Nat → Int32} (a1 : Nat) (d : Nat) (h_a1 : isH a1) {s : mG} {τ : (Int32 × mG)} (hJ : F_X5_giveBack a1 s = some τ) : Rn N xs (d + 2) me66 0 [some (.ref 35), some (.ref a1), none, none] [] (SH, s) (some (.int τ.1), (SH, τ.2)) := k_X5_giveBack_r a1 d h_a1 hJ rfl
/-! IsHeIn$Porter.ask(I)V -/
theorem srt70 : m_srt mc70 = true := by decide +kernel
def C_X6_ask_10 (N : Nat) (xs : Nat → Int32) (d : Nat) (r : Option Value × mH) (C : (mG) → Prop) : ((Int32 × mG) ⊕ (mG)) → Prop
  | .inl v => Rn N xs (d + 3) me70 10 [some (.ref 71), none, some (.int v.1)] [] (SH, v.2) r
  | .inr a => C a
def F_X6_ask_B10 (x2 : Int32) (s : mG) : Option ((Int32 × mG) ⊕ (mG)) :=
  if (cn 5) ≤ x2 then
    some (Sum.inr s)
  else
    b2 (F_X3_tells x2 s) fun v6 s5 =>
    if x2 < 0 ∨ 5 ≤ x2.toNatClampNeg then none else
    let s8 : mG := (mu s5.1 72 x2.toNatClampNeg v6, s5.2)
    some (Sum.inl ((x2 + ci 1), s8))
set_option maxRecDepth 4000 in
theorem k_X6_ask_B10 {N : Nat} {xs : Nat → Int32} (d : Nat) {r : Option Value × mH} {s : mG} {x2 : Int32} {τ : ((Int32 × mG) ⊕ (mG))} (hJ : F_X6_ask_B10 x2 s = some τ) (hC : (C_X6_ask_10 N xs d r (fun τ => r = (none, (SH, τ)))) τ) : Rn N xs (d + 3) me70 10 [some (.ref 71), none, some (.int x2)] [] (SH, s) r := by
  unfold F_X6_ask_B10 at hJ
  refine Rn_sq srt70 6 5 (pc' := (if (cn 5) ≤ x2 then 39 else 19)) (ls' := [some (.ref 71), none, some (.int x2)]) (st' := []) (h1 := (SH, s)) rfl (Rn_if (fun h3 => ?_) (fun h3 => ?_))
  · replace hJ := m_ifp h3 hJ
    rw [← Option.some.inj hJ] at hC
    have hC : r = (none, (SH, s)) := hC
    subst hC
    exact Rn_ret srt70 21 rfl rfl rfl
  · replace hJ := m_ifn h3 hJ
    refine Rn_sq srt70 11 6 (pc' := 29) (ls' := [some (.ref 71), none, some (.int x2)]) (st' := [(.int x2), (.ref 68), (.int x2), (.ref 72)]) (h1 := (SH, s)) rfl ?_
    obtain ⟨v6, s5, h4, hJ⟩ := m_b2 hJ
    refine Rn_call srt70 17 rfl rfl rfl ⟨Nat.le_of_ble_eq_true rfl, Nat.le_of_ble_eq_true rfl, rfl, Nat.le_of_ble_eq_true rfl⟩ (k_X3_tells (d) h4) (show Rn N xs (d + 3) me70 32 [some (.ref 71), none, some (.int x2)] [(.int v6), (.int x2), (.ref 72)] (SH, s5) r from ?_)
    obtain ⟨h7, hJ⟩ := m_gn hJ
    extract_lets +onlyGivenNames s8 at hJ
    refine Rn_ev srt70 18 rfl rfl rfl (op_ias sh72 h7 (k := x2.toNatClampNeg) rfl) ?_
    refine Rn_sq srt70 19 2 (pc' := 10) (ls' := [some (.ref 71), none, some (.int (x2 + ci 1))]) (st' := []) (h1 := (SH, s8)) rfl ?_
    rw [← Option.some.inj hJ] at hC
    exact hC
def F_X6_ask_L10 (x2 : Int32) (s : mG) : Option (mG) := whl (fun (v : (Int32 × mG)) => F_X6_ask_B10 v.1 v.2) (x2, s)
theorem k_X6_ask_L10 {N : Nat} {xs : Nat → Int32} (d : Nat) {r : Option Value × mH} {s : mG} {x2 : Int32} {τ : (mG)} (hJ : F_X6_ask_L10 x2 s = some τ) (hC : (fun τ => r = (none, (SH, τ))) τ) : Rn N xs (d + 3) me70 10 [some (.ref 71), none, some (.int x2)] [] (SH, s) r :=
  whl_link (P := fun (v : (Int32 × mG)) => Rn N xs (d + 3) me70 10 [some (.ref 71), none, some (.int v.1)] [] (SH, v.2) r) (C := (C_X6_ask_10 N xs d r (fun τ => r = (none, (SH, τ))))) (fun v τ h1 h2 => k_X6_ask_B10 d h1 h2) (fun _ h => h) (fun _ h => h) _ _ hJ hC
def F_X6_ask (a1 : Int32) (s : mG) : Option (mG) :=
  b1 (F_X3_face a1 s) fun s2 =>
  F_X6_ask_L10 (ci 0) s2
set_option maxRecDepth 4000 in
theorem k_X6_ask_r {N : Nat} {xs : Nat → Int32} (d : Nat) {r : Option Value × mH} {s : mG} {a1 : Int32} {τ : (mG)} (hJ : F_X6_ask a1 s = some τ) (hC : (fun τ => r = (none, (SH, τ))) τ) : Rn N xs (d + 3) me70 0 [some (.ref 71), some (.int a1), none] [] (SH, s) r := by
  unfold F_X6_ask at hJ
  refine Rn_sq srt70 0 3 (pc' := 5) (ls' := [some (.ref 71), some (.int a1), none]) (st' := [(.int a1), (.ref 68)]) (h1 := (SH, s)) rfl ?_
  obtain ⟨s2, h1, hJ⟩ := m_b1 hJ
  refine Rn_call srt70 3 rfl rfl rfl ⟨Nat.le_of_ble_eq_true rfl, Nat.le_of_ble_eq_true rfl, rfl, Nat.le_of_ble_eq_true rfl⟩ (k_X3_face (d) h1) (show Rn N xs (d + 3) me70 8 [some (.ref 71), some (.int a1), none] [] (SH, s2) r from ?_)
  refine Rn_sq srt70 4 2 (pc' := 10) (ls' := [some (.ref 71), some (.int a1), some (.int (ci 0))]) (st' := []) (h1 := (SH, s2)) rfl ?_
  exact Rn_weaken (a := [some (.ref 71), none, some (.int (ci 0))]) (b := [some (.ref 71), some (.int a1), some (.int (ci 0))]) (And.intro rfl (And.intro rfl trivial)) rfl (k_X6_ask_L10 d hJ hC)
theorem k_X6_ask {N : Nat} {xs : Nat → Int32} (d : Nat) {s : mG} {a1 : Int32} {τ : (mG)} (hJ : F_X6_ask a1 s = some τ) : Rn N xs (d + 3) me70 0 [some (.ref 71), some (.int a1), none] [] (SH, s) (none, (SH, τ)) := k_X6_ask_r d hJ rfl
/-! IsHeIn$Porter.isDrawn(I)Z -/
theorem srt71 : m_srt mc71 = true := by decide +kernel
def F_X6_isDrawn (a1 : Int32) (s : mG) : Option (Int32 × mG) :=
  b2 (F_X2_drawThousand 1 s) fun v3 s2 =>
  b1 (F_X11_cell 72 s2 a1) fun v5 =>
  if v5 ≤ v3 then
    some ((ci 0), s2)
  else
    some ((ci 1), s2)
set_option maxRecDepth 4000 in
theorem k_X6_isDrawn_r {N : Nat} {xs : Nat → Int32} (d : Nat) {r : Option Value × mH} {s : mG} {a1 : Int32} {τ : (Int32 × mG)} (hJ : F_X6_isDrawn a1 s = some τ) (hC : (fun τ => r = (some (.int τ.1), (SH, τ.2))) τ) : Rn N xs (d + 1) me71 0 [some (.ref 71), some (.int a1)] [] (SH, s) r := by
  unfold F_X6_isDrawn at hJ
  refine Rn_sq srt71 0 2 (pc' := 4) (ls' := [some (.ref 71), some (.int a1)]) (st' := [(.ref 1)]) (h1 := (SH, s)) rfl ?_
  obtain ⟨v3, s2, h1, hJ⟩ := m_b2 hJ
  refine Rn_call srt71 2 rfl rfl rfl ⟨Nat.le_of_ble_eq_true rfl, Nat.le_of_ble_eq_true rfl, rfl, Nat.le_of_ble_eq_true rfl⟩ (k_X2_drawThousand 1 (d) isH_1 h1) (show Rn N xs (d + 1) me71 7 [some (.ref 71), some (.int a1)] [(.int v3)] (SH, s2) r from ?_)
  refine Rn_sq srt71 3 3 (pc' := 12) (ls' := [some (.ref 71), some (.int a1)]) (st' := [(.int a1), (.ref 72), (.int v3)]) (h1 := (SH, s2)) rfl ?_
  obtain ⟨v5, h4, hJ⟩ := m_b1 hJ
  refine Rn_call srt71 6 rfl rfl rfl ⟨Nat.le_of_ble_eq_true rfl, Nat.le_of_ble_eq_true rfl, rfl, Nat.le_of_ble_eq_true rfl⟩ (k_X11_cell 72 (d) h4) (show Rn N xs (d + 1) me71 15 [some (.ref 71), some (.int a1)] [(.int v5), (.int v3)] (SH, s2) r from ?_)
  refine Rn_sq srt71 7 1 (pc' := (if v5 ≤ v3 then 22 else 18)) (ls' := [some (.ref 71), some (.int a1)]) (st' := []) (h1 := (SH, s2)) rfl (Rn_if (fun h6 => ?_) (fun h6 => ?_))
  · replace hJ := m_ifp h6 hJ
    refine Rn_sq srt71 10 1 (pc' := 23) (ls' := [some (.ref 71), some (.int a1)]) (st' := [(.int (ci 0))]) (h1 := (SH, s2)) rfl ?_
    rw [← Option.some.inj hJ] at hC
    have hC : r = (some (.int (ci 0)), (SH, s2)) := hC
    subst hC
    exact Rn_ret srt71 11 rfl rfl (m_ret_b rfl (by decide))
  · replace hJ := m_ifn h6 hJ
    refine Rn_sq srt71 8 2 (pc' := 23) (ls' := [some (.ref 71), some (.int a1)]) (st' := [(.int (ci 1))]) (h1 := (SH, s2)) rfl ?_
    rw [← Option.some.inj hJ] at hC
    have hC : r = (some (.int (ci 1)), (SH, s2)) := hC
    subst hC
    exact Rn_ret srt71 11 rfl rfl (m_ret_b rfl (by decide))
theorem k_X6_isDrawn {N : Nat} {xs : Nat → Int32} (d : Nat) {s : mG} {a1 : Int32} {τ : (Int32 × mG)} (hJ : F_X6_isDrawn a1 s = some τ) : Rn N xs (d + 1) me71 0 [some (.ref 71), some (.int a1)] [] (SH, s) (some (.int τ.1), (SH, τ.2)) := k_X6_isDrawn_r d hJ rfl
/-! IsHeIn$Porter.hangKey(I)V -/
theorem srt73 : m_srt mc73 = true := by decide +kernel
def F_X6_hangKey_51 (x1 : Int32) (x2 : Int32) (s : mG) : Option (mG) :=
  b1 (F_X2_hasKey 1 s x2) fun v6 =>
  if v6 = 0 then
    b1 (F_X10_put 2 x1 (ci 3) x2 s) fun s9 =>
    some s9
  else
    some s
set_option maxRecDepth 4000 in
theorem k_X6_hangKey_51 {N : Nat} {xs : Nat → Int32} (d : Nat) {r : Option Value × mH} {s : mG} {x1 : Int32} {x2 : Int32} {τ : (mG)} (hJ : F_X6_hangKey_51 x1 x2 s = some τ) (hC : (fun τ => r = (none, (SH, τ))) τ) : Rn N xs (d + 3) me73 51 [some (.ref 71), some (.int x1), some (.int x2), none] [] (SH, s) r := by
  unfold F_X6_hangKey_51 at hJ
  refine Rn_sq srt73 29 3 (pc' := 56) (ls' := [some (.ref 71), some (.int x1), some (.int x2), none]) (st' := [(.int x2), (.ref 1)]) (h1 := (SH, s)) rfl ?_
  obtain ⟨v6, h5, hJ⟩ := m_b1 hJ
  refine Rn_call srt73 32 rfl rfl rfl ⟨Nat.le_of_ble_eq_true rfl, Nat.le_of_ble_eq_true rfl, rfl, Nat.le_of_ble_eq_true rfl⟩ (k_X2_hasKey 1 (d) isH_1 h5) (show Rn N xs (d + 3) me73 59 [some (.ref 71), some (.int x1), some (.int x2), none] [(.int v6)] (SH, s) r from ?_)
  refine Rn_sq srt73 33 1 (pc' := (if v6 = 0 then 62 else 75)) (ls' := [some (.ref 71), some (.int x1), some (.int x2), none]) (st' := []) (h1 := (SH, s)) rfl (Rn_if (fun h7 => ?_) (fun h7 => ?_))
  · replace hJ := m_ifp h7 hJ
    refine Rn_sq srt73 34 6 (pc' := 72) (ls' := [some (.ref 71), some (.int x1), some (.int x2), none]) (st' := [(.int x2), (.int (ci 3)), (.int x1), (.ref 2)]) (h1 := (SH, s)) rfl ?_
    obtain ⟨s9, h8, hJ⟩ := m_b1 hJ
    refine Rn_call srt73 40 rfl rfl rfl ⟨Nat.le_of_ble_eq_true rfl, Nat.le_of_ble_eq_true rfl, rfl, Nat.le_of_ble_eq_true rfl⟩ (k_X10_put 2 (d + 2) isT_2 h8) (show Rn N xs (d + 3) me73 75 [some (.ref 71), some (.int x1), some (.int x2), none] [] (SH, s9) r from ?_)
    rw [← Option.some.inj hJ] at hC
    have hC : r = (none, (SH, s9)) := hC
    subst hC
    exact Rn_ret srt73 41 rfl rfl rfl
  · replace hJ := m_ifn h7 hJ
    rw [← Option.some.inj hJ] at hC
    have hC : r = (none, (SH, s)) := hC
    subst hC
    exact Rn_ret srt73 41 rfl rfl rfl
def F_X6_hangKey_50 (x1 : Int32) (y0 : Int32) (s : mG) : Option (mG) :=
  F_X6_hangKey_51 x1 y0 s
set_option maxRecDepth 4000 in
theorem k_X6_hangKey_50 {N : Nat} {xs : Nat → Int32} (d : Nat) {r : Option Value × mH} {s : mG} {x1 : Int32} {y0 : Int32} {τ : (mG)} (hJ : F_X6_hangKey_50 x1 y0 s = some τ) (hC : (fun τ => r = (none, (SH, τ))) τ) : Rn N xs (d + 3) me73 50 [some (.ref 71), some (.int x1), none, none] [(.int y0)] (SH, s) r := by
  unfold F_X6_hangKey_50 at hJ
  refine Rn_sq srt73 28 1 (pc' := 51) (ls' := [some (.ref 71), some (.int x1), some (.int y0), none]) (st' := []) (h1 := (SH, s)) rfl ?_
  exact (k_X6_hangKey_51 d hJ hC)
def F_X6_hangKey_33 (x1 : Int32) (y0 : Int32) (s : mG) : Option (mG) :=
  b1 (F_X2_hasKey 1 s y0) fun v12 =>
  if v12 = 0 then
    F_X6_hangKey_50 x1 y0 s
  else
    F_X6_hangKey_50 x1 x1 s
set_option maxRecDepth 4000 in
theorem k_X6_hangKey_33 {N : Nat} {xs : Nat → Int32} (d : Nat) {r : Option Value × mH} {s : mG} {x1 : Int32} {y0 : Int32} {τ : (mG)} (hJ : F_X6_hangKey_33 x1 y0 s = some τ) (hC : (fun τ => r = (none, (SH, τ))) τ) : Rn N xs (d + 3) me73 33 [some (.ref 71), some (.int x1), none, none] [(.int y0)] (SH, s) r := by
  unfold F_X6_hangKey_33 at hJ
  refine Rn_sq srt73 19 4 (pc' := 39) (ls' := [some (.ref 71), some (.int x1), none, some (.int y0)]) (st' := [(.int y0), (.ref 1)]) (h1 := (SH, s)) rfl ?_
  obtain ⟨v12, h11, hJ⟩ := m_b1 hJ
  refine Rn_call srt73 23 rfl rfl rfl ⟨Nat.le_of_ble_eq_true rfl, Nat.le_of_ble_eq_true rfl, rfl, Nat.le_of_ble_eq_true rfl⟩ (k_X2_hasKey 1 (d) isH_1 h11) (show Rn N xs (d + 3) me73 42 [some (.ref 71), some (.int x1), none, some (.int y0)] [(.int v12)] (SH, s) r from ?_)
  refine Rn_sq srt73 24 1 (pc' := (if v12 = 0 then 49 else 45)) (ls' := [some (.ref 71), some (.int x1), none, some (.int y0)]) (st' := []) (h1 := (SH, s)) rfl (Rn_if (fun h13 => ?_) (fun h13 => ?_))
  · replace hJ := m_ifp h13 hJ
    refine Rn_sq srt73 27 1 (pc' := 50) (ls' := [some (.ref 71), some (.int x1), none, some (.int y0)]) (st' := [(.int y0)]) (h1 := (SH, s)) rfl ?_
    exact Rn_weaken (a := [some (.ref 71), some (.int x1), none, none]) (b := [some (.ref 71), some (.int x1), none, some (.int y0)]) (And.intro rfl (And.intro rfl trivial)) rfl (k_X6_hangKey_50 d hJ hC)
  · replace hJ := m_ifn h13 hJ
    refine Rn_sq srt73 25 2 (pc' := 50) (ls' := [some (.ref 71), some (.int x1), none, some (.int y0)]) (st' := [(.int x1)]) (h1 := (SH, s)) rfl ?_
    exact Rn_weaken (a := [some (.ref 71), some (.int x1), none, none]) (b := [some (.ref 71), some (.int x1), none, some (.int y0)]) (And.intro rfl (And.intro rfl trivial)) rfl (k_X6_hangKey_50 d hJ hC)
def F_X6_hangKey (a1 : Int32) (s : mG) : Option (mG) :=
  b2 (F_X6_isDrawn (ci 3) s) fun v3 s2 =>
  if v3 = 0 then
    F_X6_hangKey_51 a1 a1 s2
  else
    if (s2.1 2 3) ≤ (a1 + (ci 1)) then
      F_X6_hangKey_33 a1 (ci 0) s2
    else
      F_X6_hangKey_33 a1 (a1 + (ci 1)) s2
set_option maxRecDepth 4000 in
theorem k_X6_hangKey_r {N : Nat} {xs : Nat → Int32} (d : Nat) {r : Option Value × mH} {s : mG} {a1 : Int32} {τ : (mG)} (hJ : F_X6_hangKey a1 s = some τ) (hC : (fun τ => r = (none, (SH, τ))) τ) : Rn N xs (d + 3) me73 0 [some (.ref 71), some (.int a1), none, none] [] (SH, s) r := by
  unfold F_X6_hangKey at hJ
  refine Rn_sq srt73 0 4 (pc' := 4) (ls' := [some (.ref 71), some (.int a1), some (.int a1), none]) (st' := [(.int (ci 3)), (.ref 71)]) (h1 := (SH, s)) rfl ?_
  obtain ⟨v3, s2, h1, hJ⟩ := m_b2 hJ
  refine Rn_call srt73 4 rfl rfl rfl ⟨Nat.le_of_ble_eq_true rfl, Nat.le_of_ble_eq_true rfl, rfl, Nat.le_of_ble_eq_true rfl⟩ (k_X6_isDrawn (d + 1) h1) (show Rn N xs (d + 3) me73 7 [some (.ref 71), some (.int a1), some (.int a1), none] [(.int v3)] (SH, s2) r from ?_)
  refine Rn_sq srt73 5 1 (pc' := (if v3 = 0 then 51 else 10)) (ls' := [some (.ref 71), some (.int a1), some (.int a1), none]) (st' := []) (h1 := (SH, s2)) rfl (Rn_if (fun h4 => ?_) (fun h4 => ?_))
  · replace hJ := m_ifp h4 hJ
    exact (k_X6_hangKey_51 d hJ hC)
  · replace hJ := m_ifn h4 hJ
    refine Rn_sq srt73 6 8 (pc' := (if (s2.1 2 3) ≤ (a1 + (ci 1)) then 32 else 26)) (ls' := [some (.ref 71), some (.int a1), some (.int a1), none]) (st' := []) (h1 := (SH, s2)) rfl (Rn_if (fun h10 => ?_) (fun h10 => ?_))
    · replace hJ := m_ifp h10 hJ
      refine Rn_sq srt73 18 1 (pc' := 33) (ls' := [some (.ref 71), some (.int a1), some (.int a1), none]) (st' := [(.int (ci 0))]) (h1 := (SH, s2)) rfl ?_
      exact Rn_weaken (a := [some (.ref 71), some (.int a1), none, none]) (b := [some (.ref 71), some (.int a1), some (.int a1), none]) (And.intro rfl (And.intro rfl trivial)) rfl (k_X6_hangKey_33 d hJ hC)
    · replace hJ := m_ifn h10 hJ
      refine Rn_sq srt73 14 4 (pc' := 33) (ls' := [some (.ref 71), some (.int a1), some (.int a1), none]) (st' := [(.int (a1 + (ci 1)))]) (h1 := (SH, s2)) rfl ?_
      exact Rn_weaken (a := [some (.ref 71), some (.int a1), none, none]) (b := [some (.ref 71), some (.int a1), some (.int a1), none]) (And.intro rfl (And.intro rfl trivial)) rfl (k_X6_hangKey_33 d hJ hC)
theorem k_X6_hangKey {N : Nat} {xs : Nat → Int32} (d : Nat) {s : mG} {a1 : Int32} {τ : (mG)} (hJ : F_X6_hangKey a1 s = some τ) : Rn N xs (d + 3) me73 0 [some (.ref 71), some (.int a1), none, none] [] (SH, s) (none, (SH, τ)) := k_X6_hangKey_r d hJ rfl
/-! IsHeIn$Porter.goes(I)Z -/
theorem srt72 : m_srt mc72 = true := by decide +kernel
def F_X6_goes_50 (x1 : Int32) (x2 : Int32) (s : mG) : Option (Int32 × mG) :=
  b1 (F_X2_clerkAt 1 s x2) fun v18 =>
  b1 (F_X2_write 1 (ci 0) x1 x2 v18 s) fun s20 =>
  some ((ci 1), s20)
set_option maxRecDepth 4000 in
theorem k_X6_goes_50 {N : Nat} {xs : Nat → Int32} (d : Nat) {r : Option Value × mH} {s : mG} {x1 : Int32} {x2 : Int32} {τ : (Int32 × mG)} (hJ : F_X6_goes_50 x1 x2 s = some τ) (hC : (fun τ => r = (some (.int τ.1), (SH, τ.2))) τ) : Rn N xs (d + 4) me72 50 [some (.ref 71), some (.int x1), some (.int x2)] [] (SH, s) r := by
  unfold F_X6_goes_50 at hJ
  refine Rn_sq srt72 28 8 (pc' := 62) (ls' := [some (.ref 71), some (.int x1), some (.int x2)]) (st' := [(.int x2), (.ref 1), (.int x2), (.int x1), (.int (ci 0)), (.ref 1)]) (h1 := (SH, s)) rfl ?_
  obtain ⟨v18, h17, hJ⟩ := m_b1 hJ
  refine Rn_call srt72 36 rfl rfl rfl ⟨Nat.le_of_ble_eq_true rfl, Nat.le_of_ble_eq_true rfl, rfl, Nat.le_of_ble_eq_true rfl⟩ (k_X2_clerkAt 1 (d + 2) isH_1 h17) (show Rn N xs (d + 4) me72 65 [some (.ref 71), some (.int x1), some (.int x2)] [(.int v18), (.int x2), (.int x1), (.int (ci 0)), (.ref 1)] (SH, s) r from ?_)
  obtain ⟨s20, h19, hJ⟩ := m_b1 hJ
  refine Rn_call srt72 37 rfl rfl rfl ⟨Nat.le_of_ble_eq_true rfl, Nat.le_of_ble_eq_true rfl, rfl, Nat.le_of_ble_eq_true rfl⟩ (k_X2_write 1 (d + 1) isH_1 h19) (show Rn N xs (d + 4) me72 68 [some (.ref 71), some (.int x1), some (.int x2)] [] (SH, s20) r from ?_)
  refine Rn_sq srt72 38 1 (pc' := 69) (ls' := [some (.ref 71), some (.int x1), some (.int x2)]) (st' := [(.int (ci 1))]) (h1 := (SH, s20)) rfl ?_
  rw [← Option.some.inj hJ] at hC
  have hC : r = (some (.int (ci 1)), (SH, s20)) := hC
  subst hC
  exact Rn_ret srt72 39 rfl rfl (m_ret_b rfl (by decide))
def F_X6_goes_36 (x1 : Int32) (y0 : Int32) (s : mG) : Option (Int32 × mG) :=
  b2 (F_X6_isDrawn (ci 2) s) fun v13 s12 =>
  if v13 = 0 then
    b1 (F_X6_hangKey x1 s12) fun s16 =>
    F_X6_goes_50 x1 y0 s16
  else
    F_X6_goes_50 x1 y0 s12
set_option maxRecDepth 4000 in
theorem k_X6_goes_36 {N : Nat} {xs : Nat → Int32} (d : Nat) {r : Option Value × mH} {s : mG} {x1 : Int32} {y0 : Int32} {τ : (Int32 × mG)} (hJ : F_X6_goes_36 x1 y0 s = some τ) (hC : (fun τ => r = (some (.int τ.1), (SH, τ.2))) τ) : Rn N xs (d + 4) me72 36 [some (.ref 71), some (.int x1), none] [(.int y0)] (SH, s) r := by
  unfold F_X6_goes_36 at hJ
  refine Rn_sq srt72 20 3 (pc' := 39) (ls' := [some (.ref 71), some (.int x1), some (.int y0)]) (st' := [(.int (ci 2)), (.ref 71)]) (h1 := (SH, s)) rfl ?_
  obtain ⟨v13, s12, h11, hJ⟩ := m_b2 hJ
  refine Rn_call srt72 23 rfl rfl rfl ⟨Nat.le_of_ble_eq_true rfl, Nat.le_of_ble_eq_true rfl, rfl, Nat.le_of_ble_eq_true rfl⟩ (k_X6_isDrawn (d + 2) h11) (show Rn N xs (d + 4) me72 42 [some (.ref 71), some (.int x1), some (.int y0)] [(.int v13)] (SH, s12) r from ?_)
  refine Rn_sq srt72 24 1 (pc' := (if v13 = 0 then 45 else 50)) (ls' := [some (.ref 71), some (.int x1), some (.int y0)]) (st' := []) (h1 := (SH, s12)) rfl (Rn_if (fun h14 => ?_) (fun h14 => ?_))
  · replace hJ := m_ifp h14 hJ
    refine Rn_sq srt72 25 2 (pc' := 47) (ls' := [some (.ref 71), some (.int x1), some (.int y0)]) (st' := [(.int x1), (.ref 71)]) (h1 := (SH, s12)) rfl ?_
    obtain ⟨s16, h15, hJ⟩ := m_b1 hJ
    refine Rn_call srt72 27 rfl rfl rfl ⟨Nat.le_of_ble_eq_true rfl, Nat.le_of_ble_eq_true rfl, rfl, Nat.le_of_ble_eq_true rfl⟩ (k_X6_hangKey (d) h15) (show Rn N xs (d + 4) me72 50 [some (.ref 71), some (.int x1), some (.int y0)] [] (SH, s16) r from ?_)
    exact (k_X6_goes_50 d hJ hC)
  · replace hJ := m_ifn h14 hJ
    exact (k_X6_goes_50 d hJ hC)
def F_X6_goes (a1 : Int32) (s : mG) : Option (Int32 × mG) :=
  b2 (F_X6_isDrawn (ci 0) s) fun v3 s2 =>
  if v3 = 0 then
    some ((ci 0), s2)
  else
    b1 (F_X10_put 2 a1 (ci 2) (ci 1) s2) fun s6 =>
    b2 (F_X6_isDrawn (ci 4) s6) fun v9 s8 =>
    if v9 = 0 then
      F_X6_goes_36 a1 (ci 1) s8
    else
      F_X6_goes_36 a1 (ci 0) s8
set_option maxRecDepth 4000 in
theorem k_X6_goes_r {N : Nat} {xs : Nat → Int32} (d : Nat) {r : Option Value × mH} {s : mG} {a1 : Int32} {τ : (Int32 × mG)} (hJ : F_X6_goes a1 s = some τ) (hC : (fun τ => r = (some (.int τ.1), (SH, τ.2))) τ) : Rn N xs (d + 4) me72 0 [some (.ref 71), some (.int a1), none] [] (SH, s) r := by
  unfold F_X6_goes at hJ
  refine Rn_sq srt72 0 2 (pc' := 2) (ls' := [some (.ref 71), some (.int a1), none]) (st' := [(.int (ci 0)), (.ref 71)]) (h1 := (SH, s)) rfl ?_
  obtain ⟨v3, s2, h1, hJ⟩ := m_b2 hJ
  refine Rn_call srt72 2 rfl rfl rfl ⟨Nat.le_of_ble_eq_true rfl, Nat.le_of_ble_eq_true rfl, rfl, Nat.le_of_ble_eq_true rfl⟩ (k_X6_isDrawn (d + 2) h1) (show Rn N xs (d + 4) me72 5 [some (.ref 71), some (.int a1), none] [(.int v3)] (SH, s2) r from ?_)
  refine Rn_sq srt72 3 1 (pc' := (if v3 = 0 then 8 else 10)) (ls' := [some (.ref 71), some (.int a1), none]) (st' := []) (h1 := (SH, s2)) rfl (Rn_if (fun h4 => ?_) (fun h4 => ?_))
  · replace hJ := m_ifp h4 hJ
    refine Rn_sq srt72 4 1 (pc' := 9) (ls' := [some (.ref 71), some (.int a1), none]) (st' := [(.int (ci 0))]) (h1 := (SH, s2)) rfl ?_
    rw [← Option.some.inj hJ] at hC
    have hC : r = (some (.int (ci 0)), (SH, s2)) := hC
    subst hC
    exact Rn_ret srt72 5 rfl rfl (m_ret_b rfl (by decide))
  · replace hJ := m_ifn h4 hJ
    refine Rn_sq srt72 6 6 (pc' := 20) (ls' := [some (.ref 71), some (.int a1), none]) (st' := [(.int (ci 1)), (.int (ci 2)), (.int a1), (.ref 2)]) (h1 := (SH, s2)) rfl ?_
    obtain ⟨s6, h5, hJ⟩ := m_b1 hJ
    refine Rn_call srt72 12 rfl rfl rfl ⟨Nat.le_of_ble_eq_true rfl, Nat.le_of_ble_eq_true rfl, rfl, Nat.le_of_ble_eq_true rfl⟩ (k_X10_put 2 (d + 3) isT_2 h5) (show Rn N xs (d + 4) me72 23 [some (.ref 71), some (.int a1), none] [] (SH, s6) r from ?_)
    refine Rn_sq srt72 13 2 (pc' := 25) (ls' := [some (.ref 71), some (.int a1), none]) (st' := [(.int (ci 4)), (.ref 71)]) (h1 := (SH, s6)) rfl ?_
    obtain ⟨v9, s8, h7, hJ⟩ := m_b2 hJ
    refine Rn_call srt72 15 rfl rfl rfl ⟨Nat.le_of_ble_eq_true rfl, Nat.le_of_ble_eq_true rfl, rfl, Nat.le_of_ble_eq_true rfl⟩ (k_X6_isDrawn (d + 2) h7) (show Rn N xs (d + 4) me72 28 [some (.ref 71), some (.int a1), none] [(.int v9)] (SH, s8) r from ?_)
    refine Rn_sq srt72 16 1 (pc' := (if v9 = 0 then 35 else 31)) (ls' := [some (.ref 71), some (.int a1), none]) (st' := []) (h1 := (SH, s8)) rfl (Rn_if (fun h10 => ?_) (fun h10 => ?_))
    · replace hJ := m_ifp h10 hJ
      refine Rn_sq srt72 19 1 (pc' := 36) (ls' := [some (.ref 71), some (.int a1), none]) (st' := [(.int (ci 1))]) (h1 := (SH, s8)) rfl ?_
      exact (k_X6_goes_36 d hJ hC)
    · replace hJ := m_ifn h10 hJ
      refine Rn_sq srt72 17 2 (pc' := 36) (ls' := [some (.ref 71), some (.int a1), none]) (st' := [(.int (ci 0))]) (h1 := (SH, s8)) rfl ?_
      exact (k_X6_goes_36 d hJ hC)
theorem k_X6_goes {N : Nat} {xs : Nat → Int32} (d : Nat) {s : mG} {a1 : Int32} {τ : (Int32 × mG)} (hJ : F_X6_goes a1 s = some τ) : Rn N xs (d + 4) me72 0 [some (.ref 71), some (.int a1), none] [] (SH, s) (some (.int τ.1), (SH, τ.2)) := k_X6_goes_r d hJ rfl
/-! IsHeIn$Porter.comes(I)Z -/
theorem srt74 : m_srt mc74 = true := by decide +kernel
def F_X6_comes_49 (x1 : Int32) (y0 : Int32) (s : mG) : Option (Int32 × mG) :=
  b1 (F_X2_clerkAt 1 s y0) fun v14 =>
  b1 (F_X2_write 1 (ci 1) x1 y0 v14 s) fun s16 =>
  some ((ci 1), s16)
set_option maxRecDepth 4000 in
theorem k_X6_comes_49 {N : Nat} {xs : Nat → Int32} (d : Nat) {r : Option Value × mH} {s : mG} {x1 : Int32} {y0 : Int32} {τ : (Int32 × mG)} (hJ : F_X6_comes_49 x1 y0 s = some τ) (hC : (fun τ => r = (some (.int τ.1), (SH, τ.2))) τ) : Rn N xs (d + 3) me74 49 [some (.ref 71), some (.int x1), none] [(.int y0)] (SH, s) r := by
  unfold F_X6_comes_49 at hJ
  refine Rn_sq srt74 27 9 (pc' := 62) (ls' := [some (.ref 71), some (.int x1), some (.int y0)]) (st' := [(.int y0), (.ref 1), (.int y0), (.int x1), (.int (ci 1)), (.ref 1)]) (h1 := (SH, s)) rfl ?_
  obtain ⟨v14, h13, hJ⟩ := m_b1 hJ
  refine Rn_call srt74 36 rfl rfl rfl ⟨Nat.le_of_ble_eq_true rfl, Nat.le_of_ble_eq_true rfl, rfl, Nat.le_of_ble_eq_true rfl⟩ (k_X2_clerkAt 1 (d + 1) isH_1 h13) (show Rn N xs (d + 3) me74 65 [some (.ref 71), some (.int x1), some (.int y0)] [(.int v14), (.int y0), (.int x1), (.int (ci 1)), (.ref 1)] (SH, s) r from ?_)
  obtain ⟨s16, h15, hJ⟩ := m_b1 hJ
  refine Rn_call srt74 37 rfl rfl rfl ⟨Nat.le_of_ble_eq_true rfl, Nat.le_of_ble_eq_true rfl, rfl, Nat.le_of_ble_eq_true rfl⟩ (k_X2_write 1 (d) isH_1 h15) (show Rn N xs (d + 3) me74 68 [some (.ref 71), some (.int x1), some (.int y0)] [] (SH, s16) r from ?_)
  refine Rn_sq srt74 38 1 (pc' := 69) (ls' := [some (.ref 71), some (.int x1), some (.int y0)]) (st' := [(.int (ci 1))]) (h1 := (SH, s16)) rfl ?_
  rw [← Option.some.inj hJ] at hC
  have hC : r = (some (.int (ci 1)), (SH, s16)) := hC
  subst hC
  exact Rn_ret srt74 39 rfl rfl (m_ret_b rfl (by decide))
def F_X6_comes (a1 : Int32) (s : mG) : Option (Int32 × mG) :=
  b2 (F_X6_isDrawn (ci 1) s) fun v3 s2 =>
  if v3 = 0 then
    some ((ci 0), s2)
  else
    b1 (F_X10_put 2 a1 (ci 2) (ci 0) s2) fun s6 =>
    b1 (F_X10_put 2 a1 (ci 3) (ci (-1)) s6) fun s8 =>
    b2 (F_X6_isDrawn (ci 4) s8) fun v11 s10 =>
    if v11 = 0 then
      F_X6_comes_49 a1 (ci 1) s10
    else
      F_X6_comes_49 a1 (ci 0) s10
set_option maxRecDepth 4000 in
theorem k_X6_comes_r {N : Nat} {xs : Nat → Int32} (d : Nat) {r : Option Value × mH} {s : mG} {a1 : Int32} {τ : (Int32 × mG)} (hJ : F_X6_comes a1 s = some τ) (hC : (fun τ => r = (some (.int τ.1), (SH, τ.2))) τ) : Rn N xs (d + 3) me74 0 [some (.ref 71), some (.int a1), none] [] (SH, s) r := by
  unfold F_X6_comes at hJ
  refine Rn_sq srt74 0 2 (pc' := 2) (ls' := [some (.ref 71), some (.int a1), none]) (st' := [(.int (ci 1)), (.ref 71)]) (h1 := (SH, s)) rfl ?_
  obtain ⟨v3, s2, h1, hJ⟩ := m_b2 hJ
  refine Rn_call srt74 2 rfl rfl rfl ⟨Nat.le_of_ble_eq_true rfl, Nat.le_of_ble_eq_true rfl, rfl, Nat.le_of_ble_eq_true rfl⟩ (k_X6_isDrawn (d + 1) h1) (show Rn N xs (d + 3) me74 5 [some (.ref 71), some (.int a1), none] [(.int v3)] (SH, s2) r from ?_)
  refine Rn_sq srt74 3 1 (pc' := (if v3 = 0 then 8 else 10)) (ls' := [some (.ref 71), some (.int a1), none]) (st' := []) (h1 := (SH, s2)) rfl (Rn_if (fun h4 => ?_) (fun h4 => ?_))
  · replace hJ := m_ifp h4 hJ
    refine Rn_sq srt74 4 1 (pc' := 9) (ls' := [some (.ref 71), some (.int a1), none]) (st' := [(.int (ci 0))]) (h1 := (SH, s2)) rfl ?_
    rw [← Option.some.inj hJ] at hC
    have hC : r = (some (.int (ci 0)), (SH, s2)) := hC
    subst hC
    exact Rn_ret srt74 5 rfl rfl (m_ret_b rfl (by decide))
  · replace hJ := m_ifn h4 hJ
    refine Rn_sq srt74 6 6 (pc' := 20) (ls' := [some (.ref 71), some (.int a1), none]) (st' := [(.int (ci 0)), (.int (ci 2)), (.int a1), (.ref 2)]) (h1 := (SH, s2)) rfl ?_
    obtain ⟨s6, h5, hJ⟩ := m_b1 hJ
    refine Rn_call srt74 12 rfl rfl rfl ⟨Nat.le_of_ble_eq_true rfl, Nat.le_of_ble_eq_true rfl, rfl, Nat.le_of_ble_eq_true rfl⟩ (k_X10_put 2 (d + 2) isT_2 h5) (show Rn N xs (d + 3) me74 23 [some (.ref 71), some (.int a1), none] [] (SH, s6) r from ?_)
    refine Rn_sq srt74 13 6 (pc' := 33) (ls' := [some (.ref 71), some (.int a1), none]) (st' := [(.int (ci (-1))), (.int (ci 3)), (.int a1), (.ref 2)]) (h1 := (SH, s6)) rfl ?_
    obtain ⟨s8, h7, hJ⟩ := m_b1 hJ
    refine Rn_call srt74 19 rfl rfl rfl ⟨Nat.le_of_ble_eq_true rfl, Nat.le_of_ble_eq_true rfl, rfl, Nat.le_of_ble_eq_true rfl⟩ (k_X10_put 2 (d + 2) isT_2 h7) (show Rn N xs (d + 3) me74 36 [some (.ref 71), some (.int a1), none] [] (SH, s8) r from ?_)
    refine Rn_sq srt74 20 2 (pc' := 38) (ls' := [some (.ref 71), some (.int a1), none]) (st' := [(.int (ci 4)), (.ref 71)]) (h1 := (SH, s8)) rfl ?_
    obtain ⟨v11, s10, h9, hJ⟩ := m_b2 hJ
    refine Rn_call srt74 22 rfl rfl rfl ⟨Nat.le_of_ble_eq_true rfl, Nat.le_of_ble_eq_true rfl, rfl, Nat.le_of_ble_eq_true rfl⟩ (k_X6_isDrawn (d + 1) h9) (show Rn N xs (d + 3) me74 41 [some (.ref 71), some (.int a1), none] [(.int v11)] (SH, s10) r from ?_)
    refine Rn_sq srt74 23 1 (pc' := (if v11 = 0 then 48 else 44)) (ls' := [some (.ref 71), some (.int a1), none]) (st' := []) (h1 := (SH, s10)) rfl (Rn_if (fun h12 => ?_) (fun h12 => ?_))
    · replace hJ := m_ifp h12 hJ
      refine Rn_sq srt74 26 1 (pc' := 49) (ls' := [some (.ref 71), some (.int a1), none]) (st' := [(.int (ci 1))]) (h1 := (SH, s10)) rfl ?_
      exact (k_X6_comes_49 d hJ hC)
    · replace hJ := m_ifn h12 hJ
      refine Rn_sq srt74 24 2 (pc' := 49) (ls' := [some (.ref 71), some (.int a1), none]) (st' := [(.int (ci 0))]) (h1 := (SH, s10)) rfl ?_
      exact (k_X6_comes_49 d hJ hC)
theorem k_X6_comes {N : Nat} {xs : Nat → Int32} (d : Nat) {s : mG} {a1 : Int32} {τ : (Int32 × mG)} (hJ : F_X6_comes a1 s = some τ) : Rn N xs (d + 3) me74 0 [some (.ref 71), some (.int a1), none] [] (SH, s) (some (.int τ.1), (SH, τ.2)) := k_X6_comes_r d hJ rfl
/-! IsHeIn$Porter.passHour()I -/
theorem srt69 : m_srt mc69 = true := by decide +kernel
def C_X6_passHour_4 (N : Nat) (xs : Nat → Int32) (d : Nat) (r : Option Value × mH) (C : (Int32 × mG) → Prop) : ((Int32 × Int32 × mG) ⊕ (Int32 × mG)) → Prop
  | .inl v => Rn N xs (d + 5) me69 4 [some (.ref 71), some (.int v.1), some (.int v.2.1), none, none] [] (SH, v.2.2) r
  | .inr a => C a
def F_X6_passHour_101 (x1 : Int32) (x2 : Int32) (y1 : Int32) (y2 : Int32) (y3 : Int32) (s : mG) : Option ((Int32 × Int32 × mG) ⊕ (Int32 × mG)) :=
  b1 (F_X10_put 2 y1 y2 y3 s) fun s17 =>
  some (Sum.inl (x1, (x2 + ci 1), s17))
set_option maxRecDepth 4000 in
theorem k_X6_passHour_101 {N : Nat} {xs : Nat → Int32} (d : Nat) {r : Option Value × mH} {s : mG} {x1 : Int32} {x2 : Int32} {y1 : Int32} {y2 : Int32} {y3 : Int32} {τ : ((Int32 × Int32 × mG) ⊕ (Int32 × mG))} (hJ : F_X6_passHour_101 x1 x2 y1 y2 y3 s = some τ) (hC : (C_X6_passHour_4 N xs d r (fun τ => r = (some (.int τ.1), (SH, τ.2)))) τ) : Rn N xs (d + 5) me69 101 [some (.ref 71), some (.int x1), some (.int x2), none, none] [(.int y3), (.int y2), (.int y1), (.ref 2)] (SH, s) r := by
  unfold F_X6_passHour_101 at hJ
  obtain ⟨s17, h16, hJ⟩ := m_b1 hJ
  refine Rn_call srt69 55 rfl rfl rfl ⟨Nat.le_of_ble_eq_true rfl, Nat.le_of_ble_eq_true rfl, rfl, Nat.le_of_ble_eq_true rfl⟩ (k_X10_put 2 (d + 4) isT_2 h16) (show Rn N xs (d + 5) me69 104 [some (.ref 71), some (.int x1), some (.int x2), none, none] [] (SH, s17) r from ?_)
  refine Rn_sq srt69 56 2 (pc' := 4) (ls' := [some (.ref 71), some (.int x1), some (.int (x2 + ci 1)), none, none]) (st' := []) (h1 := (SH, s17)) rfl ?_
  rw [← Option.some.inj hJ] at hC
  exact hC
def F_X6_passHour_58 (x2 : Int32) (x3 : Int32) (y0 : Int32) (y1 : Int32) (s : mG) : Option ((Int32 × Int32 × mG) ⊕ (Int32 × mG)) :=
  b1 (F_X10_at 2 s x2 (ci 4)) fun v13 =>
  let v14 : Int32 := (imin (v13 + (ci 1)) (c16 999))
  if x3 = 0 then
    F_X6_passHour_101 (y0 + y1) x2 x2 (ci 4) v14 s
  else
    F_X6_passHour_101 (y0 + y1) x2 x2 (ci 4) (ci 0) s
set_option maxRecDepth 4000 in
theorem k_X6_passHour_58 {N : Nat} {xs : Nat → Int32} (d : Nat) {r : Option Value × mH} {s : mG} {x2 : Int32} {x3 : Int32} {y0 : Int32} {y1 : Int32} {τ : ((Int32 × Int32 × mG) ⊕ (Int32 × mG))} (hJ : F_X6_passHour_58 x2 x3 y0 y1 s = some τ) (hC : (C_X6_passHour_4 N xs d r (fun τ => r = (some (.int τ.1), (SH, τ.2)))) τ) : Rn N xs (d + 5) me69 58 [some (.ref 71), none, some (.int x2), some (.int x3), none] [(.int y1), (.int y0)] (SH, s) r := by
  unfold F_X6_passHour_58 at hJ
  refine Rn_sq srt69 32 7 (pc' := 69) (ls' := [some (.ref 71), some (.int (y0 + y1)), some (.int x2), some (.int x3), none]) (st' := [(.int (ci 4)), (.int x2), (.ref 2)]) (h1 := (SH, s)) rfl ?_
  obtain ⟨v13, h12, hJ⟩ := m_b1 hJ
  refine Rn_call srt69 39 rfl rfl rfl ⟨Nat.le_of_ble_eq_true rfl, Nat.le_of_ble_eq_true rfl, rfl, Nat.le_of_ble_eq_true rfl⟩ (k_X10_at 2 (d + 4) isT_2 h12) (show Rn N xs (d + 5) me69 72 [some (.ref 71), some (.int (y0 + y1)), some (.int x2), some (.int x3), none] [(.int v13)] (SH, s) r from ?_)
  extract_lets +onlyGivenNames v14 at hJ
  refine Rn_sq srt69 40 12 (pc' := (if x3 = 0 then 99 else 95)) (ls' := [some (.ref 71), some (.int (y0 + y1)), some (.int x2), some (.int x3), some (.int v14)]) (st' := [(.int (ci 4)), (.int x2), (.ref 2)]) (h1 := (SH, s)) rfl (Rn_if (fun h15 => ?_) (fun h15 => ?_))
  · replace hJ := m_ifp h15 hJ
    refine Rn_sq srt69 54 1 (pc' := 101) (ls' := [some (.ref 71), some (.int (y0 + y1)), some (.int x2), some (.int x3), some (.int v14)]) (st' := [(.int v14), (.int (ci 4)), (.int x2), (.ref 2)]) (h1 := (SH, s)) rfl ?_
    exact Rn_weaken (a := [some (.ref 71), some (.int (y0 + y1)), some (.int x2), none, none]) (b := [some (.ref 71), some (.int (y0 + y1)), some (.int x2), some (.int x3), some (.int v14)]) (And.intro rfl (And.intro rfl (And.intro rfl trivial))) rfl (k_X6_passHour_101 d hJ hC)
  · replace hJ := m_ifn h15 hJ
    refine Rn_sq srt69 52 2 (pc' := 101) (ls' := [some (.ref 71), some (.int (y0 + y1)), some (.int x2), some (.int x3), some (.int v14)]) (st' := [(.int (ci 0)), (.int (ci 4)), (.int x2), (.ref 2)]) (h1 := (SH, s)) rfl ?_
    exact Rn_weaken (a := [some (.ref 71), some (.int (y0 + y1)), some (.int x2), none, none]) (b := [some (.ref 71), some (.int (y0 + y1)), some (.int x2), some (.int x3), some (.int v14)]) (And.intro rfl (And.intro rfl (And.intro rfl trivial))) rfl (k_X6_passHour_101 d hJ hC)
def F_X6_passHour_47 (x1 : Int32) (x2 : Int32) (y0 : Int32) (s : mG) : Option ((Int32 × Int32 × mG) ⊕ (Int32 × mG)) :=
  if y0 = 0 then
    F_X6_passHour_58 x2 y0 x1 (ci 0) s
  else
    F_X6_passHour_58 x2 y0 x1 (ci 1) s
set_option maxRecDepth 4000 in
theorem k_X6_passHour_47 {N : Nat} {xs : Nat → Int32} (d : Nat) {r : Option Value × mH} {s : mG} {x1 : Int32} {x2 : Int32} {y0 : Int32} {τ : ((Int32 × Int32 × mG) ⊕ (Int32 × mG))} (hJ : F_X6_passHour_47 x1 x2 y0 s = some τ) (hC : (C_X6_passHour_4 N xs d r (fun τ => r = (some (.int τ.1), (SH, τ.2)))) τ) : Rn N xs (d + 5) me69 47 [some (.ref 71), some (.int x1), some (.int x2), none, none] [(.int y0)] (SH, s) r := by
  unfold F_X6_passHour_47 at hJ
  refine Rn_sq srt69 25 4 (pc' := (if y0 = 0 then 57 else 53)) (ls' := [some (.ref 71), some (.int x1), some (.int x2), some (.int y0), none]) (st' := [(.int x1)]) (h1 := (SH, s)) rfl (Rn_if (fun h11 => ?_) (fun h11 => ?_))
  · replace hJ := m_ifp h11 hJ
    refine Rn_sq srt69 31 1 (pc' := 58) (ls' := [some (.ref 71), some (.int x1), some (.int x2), some (.int y0), none]) (st' := [(.int (ci 0)), (.int x1)]) (h1 := (SH, s)) rfl ?_
    exact Rn_weaken (a := [some (.ref 71), none, some (.int x2), some (.int y0), none]) (b := [some (.ref 71), some (.int x1), some (.int x2), some (.int y0), none]) (And.intro rfl (And.intro rfl (And.intro rfl trivial))) rfl (k_X6_passHour_58 d hJ hC)
  · replace hJ := m_ifn h11 hJ
    refine Rn_sq srt69 29 2 (pc' := 58) (ls' := [some (.ref 71), some (.int x1), some (.int x2), some (.int y0), none]) (st' := [(.int (ci 1)), (.int x1)]) (h1 := (SH, s)) rfl ?_
    exact Rn_weaken (a := [some (.ref 71), none, some (.int x2), some (.int y0), none]) (b := [some (.ref 71), some (.int x1), some (.int x2), some (.int y0), none]) (And.intro rfl (And.intro rfl (And.intro rfl trivial))) rfl (k_X6_passHour_58 d hJ hC)
def F_X6_passHour_B4 (x1 : Int32) (x2 : Int32) (s : mG) : Option ((Int32 × Int32 × mG) ⊕ (Int32 × mG)) :=
  if (s.1 2 3) ≤ x2 then
    let s2 : mG := (mu s.1 1 10 ((s.1 1 10) + (ci 1)), s.2)
    some (Sum.inr (x1, s2))
  else
    b1 (F_X6_ask x2 s) fun s4 =>
    b1 (F_X2_isOut 1 s4 x2) fun v6 =>
    if v6 = 0 then
      b2 (F_X6_goes x2 s4) fun v10 s9 =>
      F_X6_passHour_47 x1 x2 v10 s9
    else
      b2 (F_X6_comes x2 s4) fun v20 s19 =>
      F_X6_passHour_47 x1 x2 v20 s19
set_option maxRecDepth 4000 in
theorem k_X6_passHour_B4 {N : Nat} {xs : Nat → Int32} (d : Nat) {r : Option Value × mH} {s : mG} {x1 : Int32} {x2 : Int32} {τ : ((Int32 × Int32 × mG) ⊕ (Int32 × mG))} (hJ : F_X6_passHour_B4 x1 x2 s = some τ) (hC : (C_X6_passHour_4 N xs d r (fun τ => r = (some (.int τ.1), (SH, τ.2)))) τ) : Rn N xs (d + 5) me69 4 [some (.ref 71), some (.int x1), some (.int x2), none, none] [] (SH, s) r := by
  unfold F_X6_passHour_B4 at hJ
  refine Rn_sq srt69 4 6 (pc' := (if (s.1 2 3) ≤ x2 then 110 else 18)) (ls' := [some (.ref 71), some (.int x1), some (.int x2), none, none]) (st' := []) (h1 := (SH, s)) rfl (Rn_if (fun h1 => ?_) (fun h1 => ?_))
  · replace hJ := m_ifp h1 hJ
    extract_lets +onlyGivenNames s2 at hJ
    refine Rn_sq srt69 58 8 (pc' := 124) (ls' := [some (.ref 71), some (.int x1), some (.int x2), none, none]) (st' := [(.int x1)]) (h1 := (SH, s2)) rfl ?_
    rw [← Option.some.inj hJ] at hC
    have hC : r = (some (.int x1), (SH, s2)) := hC
    subst hC
    exact Rn_ret srt69 66 rfl rfl rfl
  · replace hJ := m_ifn h1 hJ
    refine Rn_sq srt69 10 2 (pc' := 20) (ls' := [some (.ref 71), some (.int x1), some (.int x2), none, none]) (st' := [(.int x2), (.ref 71)]) (h1 := (SH, s)) rfl ?_
    obtain ⟨s4, h3, hJ⟩ := m_b1 hJ
    refine Rn_call srt69 12 rfl rfl rfl ⟨Nat.le_of_ble_eq_true rfl, Nat.le_of_ble_eq_true rfl, rfl, Nat.le_of_ble_eq_true rfl⟩ (k_X6_ask (d + 1) h3) (show Rn N xs (d + 5) me69 23 [some (.ref 71), some (.int x1), some (.int x2), none, none] [] (SH, s4) r from ?_)
    refine Rn_sq srt69 13 3 (pc' := 28) (ls' := [some (.ref 71), some (.int x1), some (.int x2), none, none]) (st' := [(.int x2), (.ref 1)]) (h1 := (SH, s4)) rfl ?_
    obtain ⟨v6, h5, hJ⟩ := m_b1 hJ
    refine Rn_call srt69 16 rfl rfl rfl ⟨Nat.le_of_ble_eq_true rfl, Nat.le_of_ble_eq_true rfl, rfl, Nat.le_of_ble_eq_true rfl⟩ (k_X2_isOut 1 (d + 3) isH_1 h5) (show Rn N xs (d + 5) me69 31 [some (.ref 71), some (.int x1), some (.int x2), none, none] [(.int v6)] (SH, s4) r from ?_)
    refine Rn_sq srt69 17 1 (pc' := (if v6 = 0 then 42 else 34)) (ls' := [some (.ref 71), some (.int x1), some (.int x2), none, none]) (st' := []) (h1 := (SH, s4)) rfl (Rn_if (fun h7 => ?_) (fun h7 => ?_))
    · replace hJ := m_ifp h7 hJ
      refine Rn_sq srt69 22 2 (pc' := 44) (ls' := [some (.ref 71), some (.int x1), some (.int x2), none, none]) (st' := [(.int x2), (.ref 71)]) (h1 := (SH, s4)) rfl ?_
      obtain ⟨v10, s9, h8, hJ⟩ := m_b2 hJ
      refine Rn_call srt69 24 rfl rfl rfl ⟨Nat.le_of_ble_eq_true rfl, Nat.le_of_ble_eq_true rfl, rfl, Nat.le_of_ble_eq_true rfl⟩ (k_X6_goes (d) h8) (show Rn N xs (d + 5) me69 47 [some (.ref 71), some (.int x1), some (.int x2), none, none] [(.int v10)] (SH, s9) r from ?_)
      exact (k_X6_passHour_47 d hJ hC)
    · replace hJ := m_ifn h7 hJ
      refine Rn_sq srt69 18 2 (pc' := 36) (ls' := [some (.ref 71), some (.int x1), some (.int x2), none, none]) (st' := [(.int x2), (.ref 71)]) (h1 := (SH, s4)) rfl ?_
      obtain ⟨v20, s19, h18, hJ⟩ := m_b2 hJ
      refine Rn_call srt69 20 rfl rfl rfl ⟨Nat.le_of_ble_eq_true rfl, Nat.le_of_ble_eq_true rfl, rfl, Nat.le_of_ble_eq_true rfl⟩ (k_X6_comes (d + 1) h18) (show Rn N xs (d + 5) me69 39 [some (.ref 71), some (.int x1), some (.int x2), none, none] [(.int v20)] (SH, s19) r from ?_)
      refine Rn_sq srt69 21 1 (pc' := 47) (ls' := [some (.ref 71), some (.int x1), some (.int x2), none, none]) (st' := [(.int v20)]) (h1 := (SH, s19)) rfl ?_
      exact (k_X6_passHour_47 d hJ hC)
def F_X6_passHour_L4 (x1 : Int32) (x2 : Int32) (s : mG) : Option (Int32 × mG) := whl (fun (v : (Int32 × Int32 × mG)) => F_X6_passHour_B4 v.1 v.2.1 v.2.2) (x1, x2, s)
theorem k_X6_passHour_L4 {N : Nat} {xs : Nat → Int32} (d : Nat) {r : Option Value × mH} {s : mG} {x1 : Int32} {x2 : Int32} {τ : (Int32 × mG)} (hJ : F_X6_passHour_L4 x1 x2 s = some τ) (hC : (fun τ => r = (some (.int τ.1), (SH, τ.2))) τ) : Rn N xs (d + 5) me69 4 [some (.ref 71), some (.int x1), some (.int x2), none, none] [] (SH, s) r :=
  whl_link (P := fun (v : (Int32 × Int32 × mG)) => Rn N xs (d + 5) me69 4 [some (.ref 71), some (.int v.1), some (.int v.2.1), none, none] [] (SH, v.2.2) r) (C := (C_X6_passHour_4 N xs d r (fun τ => r = (some (.int τ.1), (SH, τ.2))))) (fun v τ h1 h2 => k_X6_passHour_B4 d h1 h2) (fun _ h => h) (fun _ h => h) _ _ hJ hC
def F_X6_passHour (s : mG) : Option (Int32 × mG) :=
  F_X6_passHour_L4 (ci 0) (ci 0) s
set_option maxRecDepth 4000 in
theorem k_X6_passHour_r {N : Nat} {xs : Nat → Int32} (d : Nat) {r : Option Value × mH} {s : mG} {τ : (Int32 × mG)} (hJ : F_X6_passHour s = some τ) (hC : (fun τ => r = (some (.int τ.1), (SH, τ.2))) τ) : Rn N xs (d + 5) me69 0 [some (.ref 71), none, none, none, none] [] (SH, s) r := by
  unfold F_X6_passHour at hJ
  refine Rn_sq srt69 0 4 (pc' := 4) (ls' := [some (.ref 71), some (.int (ci 0)), some (.int (ci 0)), none, none]) (st' := []) (h1 := (SH, s)) rfl ?_
  exact (k_X6_passHour_L4 d hJ hC)
theorem k_X6_passHour {N : Nat} {xs : Nat → Int32} (d : Nat) {s : mG} {τ : (Int32 × mG)} (hJ : F_X6_passHour s = some τ) : Rn N xs (d + 5) me69 0 [some (.ref 71), none, none, none, none] [] (SH, s) (some (.int τ.1), (SH, τ.2)) := k_X6_passHour_r d hJ rfl
/-! IsHeIn$Reader.hasSpaceFor(I)Z -/
theorem srt76 : m_srt mc76 = true := by decide +kernel
def F_X7_hasSpaceFor (s : mG) (a1 : Int32) : Option (Int32) :=
  if (c16 400) < ((s.1 55 9) + a1) then
    some (ci 0)
  else
    some (ci 1)
set_option maxRecDepth 4000 in
theorem k_X7_hasSpaceFor_r {N : Nat} {xs : Nat → Int32} (d : Nat) {r : Option Value × mH} {s : mG} {a1 : Int32} {τ : (Int32)} (hJ : F_X7_hasSpaceFor s a1 = some τ) (hC : (fun τ => r = (some (.int τ), (SH, s))) τ) : Rn N xs (d + 0) me76 0 [some (.ref 55), some (.int a1)] [] (SH, s) r := by
  unfold F_X7_hasSpaceFor at hJ
  refine Rn_sq srt76 0 6 (pc' := (if (c16 400) < ((s.1 55 9) + a1) then 16 else 12)) (ls' := [some (.ref 55), some (.int a1)]) (st' := []) (h1 := (SH, s)) rfl (Rn_if (fun h1 => ?_) (fun h1 => ?_))
  · replace hJ := m_ifp h1 hJ
    refine Rn_sq srt76 8 1 (pc' := 17) (ls' := [some (.ref 55), some (.int a1)]) (st' := [(.int (ci 0))]) (h1 := (SH, s)) rfl ?_
    rw [← Option.some.inj hJ] at hC
    have hC : r = (some (.int (ci 0)), (SH, s)) := hC
    subst hC
    exact Rn_ret srt76 9 rfl rfl (m_ret_b rfl (by decide))
  · replace hJ := m_ifn h1 hJ
    refine Rn_sq srt76 6 2 (pc' := 17) (ls' := [some (.ref 55), some (.int a1)]) (st' := [(.int (ci 1))]) (h1 := (SH, s)) rfl ?_
    rw [← Option.some.inj hJ] at hC
    have hC : r = (some (.int (ci 1)), (SH, s)) := hC
    subst hC
    exact Rn_ret srt76 9 rfl rfl (m_ret_b rfl (by decide))
theorem k_X7_hasSpaceFor {N : Nat} {xs : Nat → Int32} (d : Nat) {s : mG} {a1 : Int32} {τ : (Int32)} (hJ : F_X7_hasSpaceFor s a1 = some τ) : Rn N xs (d + 0) me76 0 [some (.ref 55), some (.int a1)] [] (SH, s) (some (.int τ), (SH, s)) := k_X7_hasSpaceFor_r d hJ rfl
/-! IsHeIn$Reader.takeFour(I)V -/
theorem srt77 : m_srt mc77 = true := by decide +kernel
def C_X7_takeFour_3 (N : Nat) (xs : Nat → Int32) (d : Nat) (r : Option Value × mH) (C : (mG) → Prop) : ((Int32 × Int32 × mG) ⊕ (mG)) → Prop
  | .inl v => Rn N xs (d + 1) me77 3 [some (.ref 55), some (.int v.1), some (.int v.2.1)] [] (SH, v.2.2) r
  | .inr a => C a
def F_X7_takeFour_B3 (x1 : Int32) (x2 : Int32) (s : mG) : Option ((Int32 × Int32 × mG) ⊕ (mG)) :=
  if x2 < 0 then
    some (Sum.inr s)
  else
    b1 (F_X11_put 64 (s.1 55 9) ((ushr x1 x2) &&& (c16 255)) s) fun s3 =>
    let s4 : mG := (mu s3.1 55 9 ((s3.1 55 9) + (ci 1)), s3.2)
    some (Sum.inl (x1, (x2 + ci (-8)), s4))
set_option maxRecDepth 4000 in
theorem k_X7_takeFour_B3 {N : Nat} {xs : Nat → Int32} (d : Nat) {r : Option Value × mH} {s : mG} {x1 : Int32} {x2 : Int32} {τ : ((Int32 × Int32 × mG) ⊕ (mG))} (hJ : F_X7_takeFour_B3 x1 x2 s = some τ) (hC : (C_X7_takeFour_3 N xs d r (fun τ => r = (none, (SH, τ)))) τ) : Rn N xs (d + 1) me77 3 [some (.ref 55), some (.int x1), some (.int x2)] [] (SH, s) r := by
  unfold F_X7_takeFour_B3 at hJ
  refine Rn_sq srt77 2 2 (pc' := (if x2 < 0 then 41 else 7)) (ls' := [some (.ref 55), some (.int x1), some (.int x2)]) (st' := []) (h1 := (SH, s)) rfl (Rn_if (fun h1 => ?_) (fun h1 => ?_))
  · replace hJ := m_ifp h1 hJ
    rw [← Option.some.inj hJ] at hC
    have hC : r = (none, (SH, s)) := hC
    subst hC
    exact Rn_ret srt77 22 rfl rfl rfl
  · replace hJ := m_ifn h1 hJ
    refine Rn_sq srt77 4 9 (pc' := 22) (ls' := [some (.ref 55), some (.int x1), some (.int x2)]) (st' := [(.int ((ushr x1 x2) &&& (c16 255))), (.int (s.1 55 9)), (.ref 64)]) (h1 := (SH, s)) rfl ?_
    obtain ⟨s3, h2, hJ⟩ := m_b1 hJ
    refine Rn_call srt77 13 rfl rfl rfl ⟨Nat.le_of_ble_eq_true rfl, Nat.le_of_ble_eq_true rfl, rfl, Nat.le_of_ble_eq_true rfl⟩ (k_X11_put 64 (d) h2) (show Rn N xs (d + 1) me77 25 [some (.ref 55), some (.int x1), some (.int x2)] [] (SH, s3) r from ?_)
    extract_lets +onlyGivenNames s4 at hJ
    refine Rn_sq srt77 14 8 (pc' := 3) (ls' := [some (.ref 55), some (.int x1), some (.int (x2 + ci (-8)))]) (st' := []) (h1 := (SH, s4)) rfl ?_
    rw [← Option.some.inj hJ] at hC
    exact hC
def F_X7_takeFour_L3 (x1 : Int32) (x2 : Int32) (s : mG) : Option (mG) := whl (fun (v : (Int32 × Int32 × mG)) => F_X7_takeFour_B3 v.1 v.2.1 v.2.2) (x1, x2, s)
theorem k_X7_takeFour_L3 {N : Nat} {xs : Nat → Int32} (d : Nat) {r : Option Value × mH} {s : mG} {x1 : Int32} {x2 : Int32} {τ : (mG)} (hJ : F_X7_takeFour_L3 x1 x2 s = some τ) (hC : (fun τ => r = (none, (SH, τ))) τ) : Rn N xs (d + 1) me77 3 [some (.ref 55), some (.int x1), some (.int x2)] [] (SH, s) r :=
  whl_link (P := fun (v : (Int32 × Int32 × mG)) => Rn N xs (d + 1) me77 3 [some (.ref 55), some (.int v.1), some (.int v.2.1)] [] (SH, v.2.2) r) (C := (C_X7_takeFour_3 N xs d r (fun τ => r = (none, (SH, τ))))) (fun v τ h1 h2 => k_X7_takeFour_B3 d h1 h2) (fun _ h => h) (fun _ h => h) _ _ hJ hC
def F_X7_takeFour (a1 : Int32) (s : mG) : Option (mG) :=
  F_X7_takeFour_L3 a1 (c8 24) s
set_option maxRecDepth 4000 in
theorem k_X7_takeFour_r {N : Nat} {xs : Nat → Int32} (d : Nat) {r : Option Value × mH} {s : mG} {a1 : Int32} {τ : (mG)} (hJ : F_X7_takeFour a1 s = some τ) (hC : (fun τ => r = (none, (SH, τ))) τ) : Rn N xs (d + 1) me77 0 [some (.ref 55), some (.int a1), none] [] (SH, s) r := by
  unfold F_X7_takeFour at hJ
  refine Rn_sq srt77 0 2 (pc' := 3) (ls' := [some (.ref 55), some (.int a1), some (.int (c8 24))]) (st' := []) (h1 := (SH, s)) rfl ?_
  exact (k_X7_takeFour_L3 d hJ hC)
theorem k_X7_takeFour {N : Nat} {xs : Nat → Int32} (d : Nat) {s : mG} {a1 : Int32} {τ : (mG)} (hJ : F_X7_takeFour a1 s = some τ) : Rn N xs (d + 1) me77 0 [some (.ref 55), some (.int a1), none] [] (SH, s) (none, (SH, τ)) := k_X7_takeFour_r d hJ rfl
/-! IsHeIn$Reader.stepOn()V -/
theorem srt80 : m_srt mc80 = true := by decide +kernel
def F_X7_stepOn (s : mG) : Option (mG) :=
  let s1 : mG := (mu s.1 55 12 (imin ((s.1 55 12) + (ci 1)) ((s.1 65 3) - (ci 1))), s.2)
  b1 (F_X10_at 65 s1 (s1.1 55 12) (ci 0)) fun v3 =>
  let s4 : mG := (mu s1.1 55 14 v3, s1.2)
  b1 (F_X10_at 65 s4 (s4.1 55 12) (ci 1)) fun v6 =>
  let s7 : mG := (mu s4.1 55 15 v6, s4.2)
  b1 (F_X10_at 65 s7 (s7.1 55 12) (ci 2)) fun v9 =>
  let s10 : mG := (mu s7.1 55 16 v9, s7.2)
  some s10
set_option maxRecDepth 4000 in
theorem k_X7_stepOn_r {N : Nat} {xs : Nat → Int32} (d : Nat) {r : Option Value × mH} {s : mG} {τ : (mG)} (hJ : F_X7_stepOn s = some τ) (hC : (fun τ => r = (none, (SH, τ))) τ) : Rn N xs (d + 1) me80 0 [some (.ref 55)] [] (SH, s) r := by
  unfold F_X7_stepOn at hJ
  extract_lets +onlyGivenNames s1 at hJ
  refine Rn_sq srt80 0 18 (pc' := 32) (ls' := [some (.ref 55)]) (st' := [(.int (ci 0)), (.int (s1.1 55 12)), (.ref 65), (.ref 55)]) (h1 := (SH, s1)) rfl ?_
  obtain ⟨v3, h2, hJ⟩ := m_b1 hJ
  refine Rn_call srt80 18 rfl rfl rfl ⟨Nat.le_of_ble_eq_true rfl, Nat.le_of_ble_eq_true rfl, rfl, Nat.le_of_ble_eq_true rfl⟩ (k_X10_at 65 (d) isT_65 h2) (show Rn N xs (d + 1) me80 35 [some (.ref 55)] [(.int v3), (.ref 55)] (SH, s1) r from ?_)
  extract_lets +onlyGivenNames s4 at hJ
  refine Rn_sq srt80 19 7 (pc' := 48) (ls' := [some (.ref 55)]) (st' := [(.int (ci 1)), (.int (s4.1 55 12)), (.ref 65), (.ref 55)]) (h1 := (SH, s4)) rfl ?_
  obtain ⟨v6, h5, hJ⟩ := m_b1 hJ
  refine Rn_call srt80 26 rfl rfl rfl ⟨Nat.le_of_ble_eq_true rfl, Nat.le_of_ble_eq_true rfl, rfl, Nat.le_of_ble_eq_true rfl⟩ (k_X10_at 65 (d) isT_65 h5) (show Rn N xs (d + 1) me80 51 [some (.ref 55)] [(.int v6), (.ref 55)] (SH, s4) r from ?_)
  extract_lets +onlyGivenNames s7 at hJ
  refine Rn_sq srt80 27 7 (pc' := 64) (ls' := [some (.ref 55)]) (st' := [(.int (ci 2)), (.int (s7.1 55 12)), (.ref 65), (.ref 55)]) (h1 := (SH, s7)) rfl ?_
  obtain ⟨v9, h8, hJ⟩ := m_b1 hJ
  refine Rn_call srt80 34 rfl rfl rfl ⟨Nat.le_of_ble_eq_true rfl, Nat.le_of_ble_eq_true rfl, rfl, Nat.le_of_ble_eq_true rfl⟩ (k_X10_at 65 (d) isT_65 h8) (show Rn N xs (d + 1) me80 67 [some (.ref 55)] [(.int v9), (.ref 55)] (SH, s7) r from ?_)
  extract_lets +onlyGivenNames s10 at hJ
  refine Rn_sq srt80 35 1 (pc' := 70) (ls' := [some (.ref 55)]) (st' := []) (h1 := (SH, s10)) rfl ?_
  rw [← Option.some.inj hJ] at hC
  have hC : r = (none, (SH, s10)) := hC
  subst hC
  exact Rn_ret srt80 36 rfl rfl rfl
theorem k_X7_stepOn {N : Nat} {xs : Nat → Int32} (d : Nat) {s : mG} {τ : (mG)} (hJ : F_X7_stepOn s = some τ) : Rn N xs (d + 1) me80 0 [some (.ref 55)] [] (SH, s) (none, (SH, τ)) := k_X7_stepOn_r d hJ rfl
/-! IsHeIn$Reader.isBlank(I)Z -/
theorem srt89 : m_srt mc89 = true := by decide +kernel
def F_X7_isBlank_12 (s : mG) : Option (Int32) :=
  some (ci 1)
set_option maxRecDepth 4000 in
theorem k_X7_isBlank_12 {N : Nat} {xs : Nat → Int32} (d : Nat) {r : Option Value × mH} {s : mG} {τ : (Int32)} (hJ : F_X7_isBlank_12 s = some τ) (hC : (fun τ => r = (some (.int τ), (SH, s))) τ) : Rn N xs (d + 0) me89 12 [none] [] (SH, s) r := by
  unfold F_X7_isBlank_12 at hJ
  refine Rn_sq srt89 6 2 (pc' := 17) (ls' := [none]) (st' := [(.int (ci 1))]) (h1 := (SH, s)) rfl ?_
  rw [← Option.some.inj hJ] at hC
  have hC : r = (some (.int (ci 1)), (SH, s)) := hC
  subst hC
  exact Rn_ret srt89 9 rfl rfl (m_ret_b rfl (by decide))
def F_X7_isBlank (s : mG) (a1 : Int32) : Option (Int32) :=
  if a1 = (c8 32) then
    F_X7_isBlank_12 s
  else
    if a1 = (c8 10) then
      F_X7_isBlank_12 s
    else
      some (ci 0)
set_option maxRecDepth 4000 in
theorem k_X7_isBlank_r {N : Nat} {xs : Nat → Int32} (d : Nat) {r : Option Value × mH} {s : mG} {a1 : Int32} {τ : (Int32)} (hJ : F_X7_isBlank s a1 = some τ) (hC : (fun τ => r = (some (.int τ), (SH, s))) τ) : Rn N xs (d + 0) me89 0 [some (.int a1)] [] (SH, s) r := by
  unfold F_X7_isBlank at hJ
  refine Rn_sq srt89 0 3 (pc' := (if a1 = (c8 32) then 12 else 6)) (ls' := [some (.int a1)]) (st' := []) (h1 := (SH, s)) rfl (Rn_if (fun h1 => ?_) (fun h1 => ?_))
  · replace hJ := m_ifp h1 hJ
    exact Rn_weaken (a := [none]) (b := [some (.int a1)]) trivial rfl (k_X7_isBlank_12 d hJ hC)
  · replace hJ := m_ifn h1 hJ
    refine Rn_sq srt89 3 3 (pc' := (if a1 = (c8 10) then 12 else 16)) (ls' := [some (.int a1)]) (st' := []) (h1 := (SH, s)) rfl (Rn_if (fun h2 => ?_) (fun h2 => ?_))
    · replace hJ := m_ifp h2 hJ
      exact Rn_weaken (a := [none]) (b := [some (.int a1)]) trivial rfl (k_X7_isBlank_12 d hJ hC)
    · replace hJ := m_ifn h2 hJ
      refine Rn_sq srt89 8 1 (pc' := 17) (ls' := [some (.int a1)]) (st' := [(.int (ci 0))]) (h1 := (SH, s)) rfl ?_
      rw [← Option.some.inj hJ] at hC
      have hC : r = (some (.int (ci 0)), (SH, s)) := hC
      subst hC
      exact Rn_ret srt89 9 rfl rfl (m_ret_b rfl (by decide))
theorem k_X7_isBlank {N : Nat} {xs : Nat → Int32} (d : Nat) {s : mG} {a1 : Int32} {τ : (Int32)} (hJ : F_X7_isBlank s a1 = some τ) : Rn N xs (d + 0) me89 0 [some (.int a1)] [] (SH, s) (some (.int τ), (SH, s)) := k_X7_isBlank_r d hJ rfl
/-! IsHeIn$Reader.skipBlanks()Z -/
theorem srt83 : m_srt mc83 = true := by decide +kernel
def C_X7_skipBlanks_0 (N : Nat) (xs : Nat → Int32) (d : Nat) (r : Option Value × mH) (C : (Int32 × mG) → Prop) : ((mG) ⊕ (Int32 × mG)) → Prop
  | .inl v => Rn N xs (d + 1) me83 0 [some (.ref 55)] [] (SH, v) r
  | .inr a => C a
def F_X7_skipBlanks_41 (s : mG) : Option (Int32 × mG) :=
  if (s.1 55 9) ≤ (s.1 55 13) then
    some ((ci 0), s)
  else
    some ((ci 1), s)
set_option maxRecDepth 4000 in
theorem k_X7_skipBlanks_41 {N : Nat} {xs : Nat → Int32} (d : Nat) {r : Option Value × mH} {s : mG} {τ : (Int32 × mG)} (hJ : F_X7_skipBlanks_41 s = some τ) (hC : (fun τ => r = (some (.int τ.1), (SH, τ.2))) τ) : Rn N xs (d + 1) me83 41 [some (.ref 55)] [] (SH, s) r := by
  unfold F_X7_skipBlanks_41 at hJ
  refine Rn_sq srt83 19 5 (pc' := (if (s.1 55 9) ≤ (s.1 55 13) then 56 else 52)) (ls' := [some (.ref 55)]) (st' := []) (h1 := (SH, s)) rfl (Rn_if (fun h2 => ?_) (fun h2 => ?_))
  · replace hJ := m_ifp h2 hJ
    refine Rn_sq srt83 26 1 (pc' := 57) (ls' := [some (.ref 55)]) (st' := [(.int (ci 0))]) (h1 := (SH, s)) rfl ?_
    rw [← Option.some.inj hJ] at hC
    have hC : r = (some (.int (ci 0)), (SH, s)) := hC
    subst hC
    exact Rn_ret srt83 27 rfl rfl (m_ret_b rfl (by decide))
  · replace hJ := m_ifn h2 hJ
    refine Rn_sq srt83 24 2 (pc' := 57) (ls' := [some (.ref 55)]) (st' := [(.int (ci 1))]) (h1 := (SH, s)) rfl ?_
    rw [← Option.some.inj hJ] at hC
    have hC : r = (some (.int (ci 1)), (SH, s)) := hC
    subst hC
    exact Rn_ret srt83 27 rfl rfl (m_ret_b rfl (by decide))
def F_X7_skipBlanks_B0 (s : mG) : Option ((mG) ⊕ (Int32 × mG)) :=
  if (s.1 55 9) ≤ (s.1 55 13) then
    b1 (F_X7_skipBlanks_41 s) fun τ => some (Sum.inr τ)
  else
    b1 (F_X11_cell 64 s (s.1 55 13)) fun v4 =>
    b1 (F_X7_isBlank s v4) fun v6 =>
    if v6 = 0 then
      b1 (F_X7_skipBlanks_41 s) fun τ => some (Sum.inr τ)
    else
      let s8 : mG := (mu s.1 55 13 ((s.1 55 13) + (ci 1)), s.2)
      some (Sum.inl s8)
set_option maxRecDepth 4000 in
theorem k_X7_skipBlanks_B0 {N : Nat} {xs : Nat → Int32} (d : Nat) {r : Option Value × mH} {s : mG} {τ : ((mG) ⊕ (Int32 × mG))} (hJ : F_X7_skipBlanks_B0 s = some τ) (hC : (C_X7_skipBlanks_0 N xs d r (fun τ => r = (some (.int τ.1), (SH, τ.2)))) τ) : Rn N xs (d + 1) me83 0 [some (.ref 55)] [] (SH, s) r := by
  unfold F_X7_skipBlanks_B0 at hJ
  refine Rn_sq srt83 0 5 (pc' := (if (s.1 55 9) ≤ (s.1 55 13) then 41 else 11)) (ls' := [some (.ref 55)]) (st' := []) (h1 := (SH, s)) rfl (Rn_if (fun h1 => ?_) (fun h1 => ?_))
  · replace hJ := m_ifp h1 hJ
    obtain ⟨τ1, hJ1, hJ⟩ := m_b1 hJ
    rw [← Option.some.inj hJ] at hC
    exact (k_X7_skipBlanks_41 d hJ1 hC)
  · replace hJ := m_ifn h1 hJ
    refine Rn_sq srt83 5 4 (pc' := 19) (ls' := [some (.ref 55)]) (st' := [(.int (s.1 55 13)), (.ref 64)]) (h1 := (SH, s)) rfl ?_
    obtain ⟨v4, h3, hJ⟩ := m_b1 hJ
    refine Rn_call srt83 9 rfl rfl rfl ⟨Nat.le_of_ble_eq_true rfl, Nat.le_of_ble_eq_true rfl, rfl, Nat.le_of_ble_eq_true rfl⟩ (k_X11_cell 64 (d) h3) (show Rn N xs (d + 1) me83 22 [some (.ref 55)] [(.int v4)] (SH, s) r from ?_)
    obtain ⟨v6, h5, hJ⟩ := m_b1 hJ
    refine Rn_call srt83 10 rfl rfl rfl ⟨Nat.le_of_ble_eq_true rfl, Nat.le_of_ble_eq_true rfl, rfl, Nat.le_of_ble_eq_true rfl⟩ (k_X7_isBlank (d) h5) (show Rn N xs (d + 1) me83 25 [some (.ref 55)] [(.int v6)] (SH, s) r from ?_)
    refine Rn_sq srt83 11 1 (pc' := (if v6 = 0 then 41 else 28)) (ls' := [some (.ref 55)]) (st' := []) (h1 := (SH, s)) rfl (Rn_if (fun h7 => ?_) (fun h7 => ?_))
    · replace hJ := m_ifp h7 hJ
      obtain ⟨τ1, hJ1, hJ⟩ := m_b1 hJ
      rw [← Option.some.inj hJ] at hC
      exact (k_X7_skipBlanks_41 d hJ1 hC)
    · replace hJ := m_ifn h7 hJ
      extract_lets +onlyGivenNames s8 at hJ
      refine Rn_sq srt83 12 7 (pc' := 0) (ls' := [some (.ref 55)]) (st' := []) (h1 := (SH, s8)) rfl ?_
      rw [← Option.some.inj hJ] at hC
      exact hC
def F_X7_skipBlanks_L0 (s : mG) : Option (Int32 × mG) := whl (fun (v : (mG)) => F_X7_skipBlanks_B0 v) s
theorem k_X7_skipBlanks_L0 {N : Nat} {xs : Nat → Int32} (d : Nat) {r : Option Value × mH} {s : mG} {τ : (Int32 × mG)} (hJ : F_X7_skipBlanks_L0 s = some τ) (hC : (fun τ => r = (some (.int τ.1), (SH, τ.2))) τ) : Rn N xs (d + 1) me83 0 [some (.ref 55)] [] (SH, s) r :=
  whl_link (P := fun (v : (mG)) => Rn N xs (d + 1) me83 0 [some (.ref 55)] [] (SH, v) r) (C := (C_X7_skipBlanks_0 N xs d r (fun τ => r = (some (.int τ.1), (SH, τ.2))))) (fun v τ h1 h2 => k_X7_skipBlanks_B0 d h1 h2) (fun _ h => h) (fun _ h => h) _ _ hJ hC
def F_X7_skipBlanks (s : mG) : Option (Int32 × mG) :=
  F_X7_skipBlanks_L0 s
set_option maxRecDepth 4000 in
theorem k_X7_skipBlanks_r {N : Nat} {xs : Nat → Int32} (d : Nat) {r : Option Value × mH} {s : mG} {τ : (Int32 × mG)} (hJ : F_X7_skipBlanks s = some τ) (hC : (fun τ => r = (some (.int τ.1), (SH, τ.2))) τ) : Rn N xs (d + 1) me83 0 [some (.ref 55)] [] (SH, s) r := by
  unfold F_X7_skipBlanks at hJ
  exact (k_X7_skipBlanks_L0 d hJ hC)
theorem k_X7_skipBlanks {N : Nat} {xs : Nat → Int32} (d : Nat) {s : mG} {τ : (Int32 × mG)} (hJ : F_X7_skipBlanks s = some τ) : Rn N xs (d + 1) me83 0 [some (.ref 55)] [] (SH, s) (some (.int τ.1), (SH, τ.2)) := k_X7_skipBlanks_r d hJ rfl
/-! IsHeIn$Reader.addToken(III)V -/
theorem srt84 : m_srt mc84 = true := by decide +kernel
def F_X7_addToken (a1 : Int32) (a2 : Int32) (a3 : Int32) (s : mG) : Option (mG) :=
  b2 (F_X10_add 65 s) fun v3 s2 =>
  b1 (F_X10_put 65 v3 (ci 0) a1 s2) fun s5 =>
  b1 (F_X10_put 65 v3 (ci 1) a2 s5) fun s7 =>
  b1 (F_X10_put 65 v3 (ci 2) a3 s7) fun s9 =>
  some s9
set_option maxRecDepth 4000 in
theorem k_X7_addToken_r {N : Nat} {xs : Nat → Int32} (d : Nat) {r : Option Value × mH} {s : mG} {a1 : Int32} {a2 : Int32} {a3 : Int32} {τ : (mG)} (hJ : F_X7_addToken a1 a2 a3 s = some τ) (hC : (fun τ => r = (none, (SH, τ))) τ) : Rn N xs (d + 2) me84 0 [some (.ref 55), some (.int a1), some (.int a2), some (.int a3), none] [] (SH, s) r := by
  unfold F_X7_addToken at hJ
  refine Rn_sq srt84 0 2 (pc' := 4) (ls' := [some (.ref 55), some (.int a1), some (.int a2), some (.int a3), none]) (st' := [(.ref 65)]) (h1 := (SH, s)) rfl ?_
  obtain ⟨v3, s2, h1, hJ⟩ := m_b2 hJ
  refine Rn_call srt84 2 rfl rfl rfl ⟨Nat.le_of_ble_eq_true rfl, Nat.le_of_ble_eq_true rfl, rfl, Nat.le_of_ble_eq_true rfl⟩ (k_X10_add 65 (d) isT_65 h1) (show Rn N xs (d + 2) me84 7 [some (.ref 55), some (.int a1), some (.int a2), some (.int a3), none] [(.int v3)] (SH, s2) r from ?_)
  refine Rn_sq srt84 3 6 (pc' := 17) (ls' := [some (.ref 55), some (.int a1), some (.int a2), some (.int a3), some (.int v3)]) (st' := [(.int a1), (.int (ci 0)), (.int v3), (.ref 65)]) (h1 := (SH, s2)) rfl ?_
  obtain ⟨s5, h4, hJ⟩ := m_b1 hJ
  refine Rn_call srt84 9 rfl rfl rfl ⟨Nat.le_of_ble_eq_true rfl, Nat.le_of_ble_eq_true rfl, rfl, Nat.le_of_ble_eq_true rfl⟩ (k_X10_put 65 (d + 1) isT_65 h4) (show Rn N xs (d + 2) me84 20 [some (.ref 55), some (.int a1), some (.int a2), some (.int a3), some (.int v3)] [] (SH, s5) r from ?_)
  refine Rn_sq srt84 10 5 (pc' := 28) (ls' := [some (.ref 55), some (.int a1), some (.int a2), some (.int a3), some (.int v3)]) (st' := [(.int a2), (.int (ci 1)), (.int v3), (.ref 65)]) (h1 := (SH, s5)) rfl ?_
  obtain ⟨s7, h6, hJ⟩ := m_b1 hJ
  refine Rn_call srt84 15 rfl rfl rfl ⟨Nat.le_of_ble_eq_true rfl, Nat.le_of_ble_eq_true rfl, rfl, Nat.le_of_ble_eq_true rfl⟩ (k_X10_put 65 (d + 1) isT_65 h6) (show Rn N xs (d + 2) me84 31 [some (.ref 55), some (.int a1), some (.int a2), some (.int a3), some (.int v3)] [] (SH, s7) r from ?_)
  refine Rn_sq srt84 16 5 (pc' := 39) (ls' := [some (.ref 55), some (.int a1), some (.int a2), some (.int a3), some (.int v3)]) (st' := [(.int a3), (.int (ci 2)), (.int v3), (.ref 65)]) (h1 := (SH, s7)) rfl ?_
  obtain ⟨s9, h8, hJ⟩ := m_b1 hJ
  refine Rn_call srt84 21 rfl rfl rfl ⟨Nat.le_of_ble_eq_true rfl, Nat.le_of_ble_eq_true rfl, rfl, Nat.le_of_ble_eq_true rfl⟩ (k_X10_put 65 (d + 1) isT_65 h8) (show Rn N xs (d + 2) me84 42 [some (.ref 55), some (.int a1), some (.int a2), some (.int a3), some (.int v3)] [] (SH, s9) r from ?_)
  rw [← Option.some.inj hJ] at hC
  have hC : r = (none, (SH, s9)) := hC
  subst hC
  exact Rn_ret srt84 22 rfl rfl rfl
theorem k_X7_addToken {N : Nat} {xs : Nat → Int32} (d : Nat) {s : mG} {a1 : Int32} {a2 : Int32} {a3 : Int32} {τ : (mG)} (hJ : F_X7_addToken a1 a2 a3 s = some τ) : Rn N xs (d + 2) me84 0 [some (.ref 55), some (.int a1), some (.int a2), some (.int a3), none] [] (SH, s) (none, (SH, τ)) := k_X7_addToken_r d hJ rfl
/-! java/lang/String.coder()B -/
theorem srt323 : m_srt mc323 = true := by decide +kernel
def F_J0_coder_7d493 (sk : Nat) (s : mG) : Option (Int32) :=
  if 1 = 0 then
    if (ci 1).toInt8.toInt32 = (ci 1) then
      some (ci 1)
    else none
  else
    some 0
set_option maxRecDepth 4000 in
theorem k_J0_coder_7d493_r {N : Nat} {xs : Nat → Int32} (sk : Nat) (d : Nat) (h_sk : 1000100 ≤ sk ∧ sk < 1000127) {r : Option Value × mH} {s : mG} {τ : (Int32)} (hJ : F_J0_coder_7d493 sk s = some τ) (hC : (fun τ => r = (some (.int τ), (SH, s))) τ) : Rn N xs (d + 0) me323 0 [some (.ref sk)] [] (SH, s) r := by
  unfold F_J0_coder_7d493 at hJ
  refine Rn_sq srt323 0 2 (pc' := (if 1 = 0 then 13 else 6)) (ls' := [some (.ref sk)]) (st' := []) (h1 := (SH, s)) rfl (Rn_if (fun h1 => ?_) (fun h1 => ?_))
  · replace hJ := m_ifp h1 hJ
    refine Rn_sq srt323 5 1 (pc' := 14) (ls' := [some (.ref sk)]) (st' := [(.int (ci 1))]) (h1 := (SH, s)) rfl ?_
    obtain ⟨h2, hJ⟩ := m_gp hJ
    rw [← Option.some.inj hJ] at hC
    have hC : r = (some (.int (ci 1)), (SH, s)) := hC
    subst hC
    exact Rn_ret srt323 6 rfl rfl (m_ret_y rfl h2)
  · replace hJ := m_ifn h1 hJ
    refine Rn_sq srt323 2 1 (pc' := 7) (ls' := [some (.ref sk)]) (st' := [(.ref sk)]) (h1 := (SH, s)) rfl ?_
    refine Rn_ev srt323 3 rfl rfl rfl (op_gs1 h_sk) ?_
    refine Rn_sq srt323 4 1 (pc' := 14) (ls' := [some (.ref sk)]) (st' := [(.int 0)]) (h1 := (SH, s)) rfl ?_
    rw [← Option.some.inj hJ] at hC
    have hC : r = (some (.int 0), (SH, s)) := hC
    subst hC
    exact Rn_ret srt323 6 rfl rfl (m_ret_y rfl (by decide))
theorem k_J0_coder_7d493 {N : Nat} {xs : Nat → Int32} (sk : Nat) (d : Nat) (h_sk : 1000100 ≤ sk ∧ sk < 1000127) {s : mG} {τ : (Int32)} (hJ : F_J0_coder_7d493 sk s = some τ) : Rn N xs (d + 0) me323 0 [some (.ref sk)] [] (SH, s) (some (.int τ), (SH, s)) := k_J0_coder_7d493_r sk d h_sk hJ rfl
/-! java/lang/String.length()I -/
theorem srt321 : m_srt mc321 = true := by decide +kernel
def F_J0_length_8abf5 (sk : Nat) (s : mG) : Option (Int32) :=
  b1 (mal (sk + 100)) fun n1 =>
  b1 (F_J0_coder_7d493 sk s) fun v4 =>
  some ((cn n1) >>> (v4 &&& 31))
set_option maxRecDepth 4000 in
theorem k_J0_length_8abf5_r {N : Nat} {xs : Nat → Int32} (sk : Nat) (d : Nat) (h_sk : 1000100 ≤ sk ∧ sk < 1000127) {r : Option Value × mH} {s : mG} {τ : (Int32)} (hJ : F_J0_length_8abf5 sk s = some τ) (hC : (fun τ => r = (some (.int τ), (SH, s))) τ) : Rn N xs (d + 1) me321 0 [some (.ref sk)] [] (SH, s) r := by
  unfold F_J0_length_8abf5 at hJ
  refine Rn_sq srt321 0 1 (pc' := 1) (ls' := [some (.ref sk)]) (st' := [(.ref sk)]) (h1 := (SH, s)) rfl ?_
  refine Rn_ev srt321 1 rfl rfl rfl (op_gs0 h_sk) ?_
  obtain ⟨n1, h2, hJ⟩ := m_b1 hJ
  refine Rn_ev srt321 2 rfl rfl rfl (op_alv h2) ?_
  refine Rn_sq srt321 3 1 (pc' := 6) (ls' := [some (.ref sk)]) (st' := [(.ref sk), (.int (cn n1))]) (h1 := (SH, s)) rfl ?_
  obtain ⟨v4, h3, hJ⟩ := m_b1 hJ
  refine Rn_call srt321 4 rfl rfl rfl ⟨Nat.le_of_ble_eq_true rfl, Nat.le_of_ble_eq_true rfl, (recv_s h_sk), Nat.le_of_ble_eq_true rfl⟩ (k_J0_coder_7d493 sk (d) h_sk h3) (show Rn N xs (d + 1) me321 9 [some (.ref sk)] [(.int v4), (.int (cn n1))] (SH, s) r from ?_)
  refine Rn_sq srt321 5 1 (pc' := 10) (ls' := [some (.ref sk)]) (st' := [(.int ((cn n1) >>> (v4 &&& 31)))]) (h1 := (SH, s)) rfl ?_
  rw [← Option.some.inj hJ] at hC
  have hC : r = (some (.int ((cn n1) >>> (v4 &&& 31))), (SH, s)) := hC
  subst hC
  exact Rn_ret srt321 6 rfl rfl rfl
theorem k_J0_length_8abf5 {N : Nat} {xs : Nat → Int32} (sk : Nat) (d : Nat) (h_sk : 1000100 ≤ sk ∧ sk < 1000127) {s : mG} {τ : (Int32)} (hJ : F_J0_length_8abf5 sk s = some τ) : Rn N xs (d + 1) me321 0 [some (.ref sk)] [] (SH, s) (some (.int τ), (SH, s)) := k_J0_length_8abf5_r sk d h_sk hJ rfl
/-! java/lang/String.isLatin1()Z -/
theorem srt324 : m_srt mc324 = true := by decide +kernel
def F_J0_isLatin1_aae02_17 (sk : Nat) (s : mG) : Option (Int32) :=
  some (ci 0)
set_option maxRecDepth 4000 in
theorem k_J0_isLatin1_aae02_17 {N : Nat} {xs : Nat → Int32} (sk : Nat) (d : Nat) (h_sk : 1000100 ≤ sk ∧ sk < 1000127) {r : Option Value × mH} {s : mG} {τ : (Int32)} (hJ : F_J0_isLatin1_aae02_17 sk s = some τ) (hC : (fun τ => r = (some (.int τ), (SH, s))) τ) : Rn N xs (d + 0) me324 17 [none] [] (SH, s) r := by
  unfold F_J0_isLatin1_aae02_17 at hJ
  refine Rn_sq srt324 7 1 (pc' := 18) (ls' := [none]) (st' := [(.int (ci 0))]) (h1 := (SH, s)) rfl ?_
  rw [← Option.some.inj hJ] at hC
  have hC : r = (some (.int (ci 0)), (SH, s)) := hC
  subst hC
  exact Rn_ret srt324 8 rfl rfl (m_ret_b rfl (by decide))
def F_J0_isLatin1_aae02 (sk : Nat) (s : mG) : Option (Int32) :=
  if 1 = 0 then
    F_J0_isLatin1_aae02_17 sk s
  else
    if 0 = 0 then
      some (ci 1)
    else
      F_J0_isLatin1_aae02_17 sk s
set_option maxRecDepth 4000 in
theorem k_J0_isLatin1_aae02_r {N : Nat} {xs : Nat → Int32} (sk : Nat) (d : Nat) (h_sk : 1000100 ≤ sk ∧ sk < 1000127) {r : Option Value × mH} {s : mG} {τ : (Int32)} (hJ : F_J0_isLatin1_aae02 sk s = some τ) (hC : (fun τ => r = (some (.int τ), (SH, s))) τ) : Rn N xs (d + 0) me324 0 [some (.ref sk)] [] (SH, s) r := by
  unfold F_J0_isLatin1_aae02 at hJ
  refine Rn_sq srt324 0 2 (pc' := (if 1 = 0 then 17 else 6)) (ls' := [some (.ref sk)]) (st' := []) (h1 := (SH, s)) rfl (Rn_if (fun h1 => ?_) (fun h1 => ?_))
  · replace hJ := m_ifp h1 hJ
    exact Rn_weaken (a := [none]) (b := [some (.ref sk)]) trivial rfl (k_J0_isLatin1_aae02_17 sk d h_sk hJ hC)
  · replace hJ := m_ifn h1 hJ
    refine Rn_sq srt324 2 1 (pc' := 7) (ls' := [some (.ref sk)]) (st' := [(.ref sk)]) (h1 := (SH, s)) rfl ?_
    refine Rn_ev srt324 3 rfl rfl rfl (op_gs1 h_sk) ?_
    refine Rn_sq srt324 4 1 (pc' := (if 0 = 0 then 13 else 17)) (ls' := [some (.ref sk)]) (st' := []) (h1 := (SH, s)) rfl (Rn_if (fun h2 => ?_) (fun h2 => ?_))
    · replace hJ := m_ifp h2 hJ
      refine Rn_sq srt324 5 2 (pc' := 18) (ls' := [some (.ref sk)]) (st' := [(.int (ci 1))]) (h1 := (SH, s)) rfl ?_
      rw [← Option.some.inj hJ] at hC
      have hC : r = (some (.int (ci 1)), (SH, s)) := hC
      subst hC
      exact Rn_ret srt324 8 rfl rfl (m_ret_b rfl (by decide))
    · replace hJ := m_ifn h2 hJ
      exact Rn_weaken (a := [none]) (b := [some (.ref sk)]) trivial rfl (k_J0_isLatin1_aae02_17 sk d h_sk hJ hC)
theorem k_J0_isLatin1_aae02 {N : Nat} {xs : Nat → Int32} (sk : Nat) (d : Nat) (h_sk : 1000100 ≤ sk ∧ sk < 1000127) {s : mG} {τ : (Int32)} (hJ : F_J0_isLatin1_aae02 sk s = some τ) : Rn N xs (d + 0) me324 0 [some (.ref sk)] [] (SH, s) (some (.int τ), (SH, s)) := k_J0_isLatin1_aae02_r sk d h_sk hJ rfl
/-! jdk/internal/util/Preconditions.checkIndex(IILjava/util/function/BiFunction;)I -/
theorem srt327 : m_srt mc327 = true := by decide +kernel
def F_J3_checkIndex_8e157_9 (s : mG) (x0 : Int32) (x1 : Int32) : Option (Int32) :=
  none
set_option maxRecDepth 4000 in
theorem k_J3_checkIndex_8e157_9 {N : Nat} {xs : Nat → Int32} (d : Nat) {r : Option Value × mH} {s : mG} {x0 : Int32} {x1 : Int32} {τ : (Int32)} (hJ : F_J3_checkIndex_8e157_9 s x0 x1 = some τ) (hC : (fun τ => r = (some (.int τ), (SH, s))) τ) : Rn N xs (d + 0) me327 9 [some (.int x0), some (.int x1), some (.retAddr 0)] [] (SH, s) r := by
  unfold F_J3_checkIndex_8e157_9 at hJ
  cases hJ
def F_J3_checkIndex_8e157 (s : mG) (a1 : Int32) (a2 : Int32) : Option (Int32) :=
  if a1 < 0 then
    F_J3_checkIndex_8e157_9 s a1 a2
  else
    if a1 < a2 then
      some a1
    else
      F_J3_checkIndex_8e157_9 s a1 a2
set_option maxRecDepth 4000 in
theorem k_J3_checkIndex_8e157_r {N : Nat} {xs : Nat → Int32} (d : Nat) {r : Option Value × mH} {s : mG} {a1 : Int32} {a2 : Int32} {τ : (Int32)} (hJ : F_J3_checkIndex_8e157 s a1 a2 = some τ) (hC : (fun τ => r = (some (.int τ), (SH, s))) τ) : Rn N xs (d + 0) me327 0 [some (.int a1), some (.int a2), some (.retAddr 0)] [] (SH, s) r := by
  unfold F_J3_checkIndex_8e157 at hJ
  refine Rn_sq srt327 0 2 (pc' := (if a1 < 0 then 9 else 4)) (ls' := [some (.int a1), some (.int a2), some (.retAddr 0)]) (st' := []) (h1 := (SH, s)) rfl (Rn_if (fun h1 => ?_) (fun h1 => ?_))
  · replace hJ := m_ifp h1 hJ
    exact (k_J3_checkIndex_8e157_9 d hJ hC)
  · replace hJ := m_ifn h1 hJ
    refine Rn_sq srt327 2 3 (pc' := (if a1 < a2 then 16 else 9)) (ls' := [some (.int a1), some (.int a2), some (.retAddr 0)]) (st' := []) (h1 := (SH, s)) rfl (Rn_if (fun h2 => ?_) (fun h2 => ?_))
    · replace hJ := m_ifp h2 hJ
      refine Rn_sq srt327 10 1 (pc' := 17) (ls' := [some (.int a1), some (.int a2), some (.retAddr 0)]) (st' := [(.int a1)]) (h1 := (SH, s)) rfl ?_
      rw [← Option.some.inj hJ] at hC
      have hC : r = (some (.int a1), (SH, s)) := hC
      subst hC
      exact Rn_ret srt327 11 rfl rfl rfl
    · replace hJ := m_ifn h2 hJ
      exact (k_J3_checkIndex_8e157_9 d hJ hC)
theorem k_J3_checkIndex_8e157 {N : Nat} {xs : Nat → Int32} (d : Nat) {s : mG} {a1 : Int32} {a2 : Int32} {τ : (Int32)} (hJ : F_J3_checkIndex_8e157 s a1 a2 = some τ) : Rn N xs (d + 0) me327 0 [some (.int a1), some (.int a2), some (.retAddr 0)] [] (SH, s) (some (.int τ), (SH, s)) := k_J3_checkIndex_8e157_r d hJ rfl
/-! java/lang/String.checkIndex(II)V -/
theorem srt325 : m_srt mc325 = true := by decide +kernel
def F_J0_checkIndex_df160 (s : mG) (a1 : Int32) (a2 : Int32) : Option (Unit) :=
  b1 (F_J3_checkIndex_8e157 s a1 a2) fun v2 =>
  some ()
set_option maxRecDepth 4000 in
theorem k_J0_checkIndex_df160_r {N : Nat} {xs : Nat → Int32} (d : Nat) {r : Option Value × mH} {s : mG} {a1 : Int32} {a2 : Int32} {τ : (Unit)} (hJ : F_J0_checkIndex_df160 s a1 a2 = some τ) (hC : (fun τ => r = (none, (SH, s))) τ) : Rn N xs (d + 1) me325 0 [some (.int a1), some (.int a2)] [] (SH, s) r := by
  unfold F_J0_checkIndex_df160 at hJ
  refine Rn_sq srt325 0 3 (pc' := 5) (ls' := [some (.int a1), some (.int a2)]) (st' := [(.retAddr 0), (.int a2), (.int a1)]) (h1 := (SH, s)) rfl ?_
  obtain ⟨v2, h1, hJ⟩ := m_b1 hJ
  refine Rn_call srt325 3 rfl rfl rfl ⟨Nat.le_of_ble_eq_true rfl, Nat.le_of_ble_eq_true rfl, rfl, Nat.le_of_ble_eq_true rfl⟩ (k_J3_checkIndex_8e157 (d) h1) (show Rn N xs (d + 1) me325 8 [some (.int a1), some (.int a2)] [(.int v2)] (SH, s) r from ?_)
  refine Rn_sq srt325 4 1 (pc' := 9) (ls' := [some (.int a1), some (.int a2)]) (st' := []) (h1 := (SH, s)) rfl ?_
  have hC : r = (none, (SH, s)) := hC
  subst hC
  exact Rn_ret srt325 5 rfl rfl rfl
theorem k_J0_checkIndex_df160 {N : Nat} {xs : Nat → Int32} (d : Nat) {s : mG} {a1 : Int32} {a2 : Int32} {τ : (Unit)} (hJ : F_J0_checkIndex_df160 s a1 a2 = some τ) : Rn N xs (d + 1) me325 0 [some (.int a1), some (.int a2)] [] (SH, s) (none, (SH, s)) := k_J0_checkIndex_df160_r d hJ rfl
/-! java/lang/StringLatin1.charAt([BI)C -/
theorem srt326 : m_srt mc326 = true := by decide +kernel
def F_J1_charAt_3b067 (a1 : Nat) (s : mG) (a2 : Int32) : Option (Int32) :=
  b1 (mal a1) fun n1 =>
  b1 (F_J0_checkIndex_df160 s a2 (cn n1)) fun _ =>
  if a2 < 0 ∨ (m_sb.getD (a1 - 1000200) []).length ≤ a2.toNatClampNeg then none else
  if ((((m_sb.getD (a1 - 1000200) []).getD a2.toNatClampNeg 0) &&& (c16 255)).toUInt32 % 65536).toInt32.toUInt32.toUInt16.toUInt32.toInt32 = ((((m_sb.getD (a1 - 1000200) []).getD a2.toNatClampNeg 0) &&& (c16 255)).toUInt32 % 65536).toInt32 then
    some ((((m_sb.getD (a1 - 1000200) []).getD a2.toNatClampNeg 0) &&& (c16 255)).toUInt32 % 65536).toInt32
  else none
set_option maxRecDepth 4000 in
theorem k_J1_charAt_3b067_r {N : Nat} {xs : Nat → Int32} (a1 : Nat) (d : Nat) (h_a1 : 1000200 ≤ a1 ∧ a1 < 1000227) {r : Option Value × mH} {s : mG} {a2 : Int32} {τ : (Int32)} (hJ : F_J1_charAt_3b067 a1 s a2 = some τ) (hC : (fun τ => r = (some (.int τ), (SH, s))) τ) : Rn N xs (d + 2) me326 0 [some (.ref a1), some (.int a2)] [] (SH, s) r := by
  unfold F_J1_charAt_3b067 at hJ
  refine Rn_sq srt326 0 2 (pc' := 2) (ls' := [some (.ref a1), some (.int a2)]) (st' := [(.ref a1), (.int a2)]) (h1 := (SH, s)) rfl ?_
  obtain ⟨n1, h2, hJ⟩ := m_b1 hJ
  refine Rn_ev srt326 2 rfl rfl rfl (op_alv h2) ?_
  obtain ⟨_, h3, hJ⟩ := m_b1 hJ
  refine Rn_call srt326 3 rfl rfl rfl ⟨Nat.le_of_ble_eq_true rfl, Nat.le_of_ble_eq_true rfl, rfl, Nat.le_of_ble_eq_true rfl⟩ (k_J0_checkIndex_df160 (d) h3) (show Rn N xs (d + 2) me326 6 [some (.ref a1), some (.int a2)] [] (SH, s) r from ?_)
  refine Rn_sq srt326 4 2 (pc' := 8) (ls' := [some (.ref a1), some (.int a2)]) (st' := [(.int a2), (.ref a1)]) (h1 := (SH, s)) rfl ?_
  obtain ⟨h4, hJ⟩ := m_gn hJ
  refine Rn_ev srt326 6 rfl rfl rfl (op_ba h_a1 h4) ?_
  refine Rn_sq srt326 7 3 (pc' := 14) (ls' := [some (.ref a1), some (.int a2)]) (st' := [(.int ((((m_sb.getD (a1 - 1000200) []).getD a2.toNatClampNeg 0) &&& (c16 255)).toUInt32 % 65536).toInt32)]) (h1 := (SH, s)) rfl ?_
  obtain ⟨h5, hJ⟩ := m_gp hJ
  rw [← Option.some.inj hJ] at hC
  have hC : r = (some (.int ((((m_sb.getD (a1 - 1000200) []).getD a2.toNatClampNeg 0) &&& (c16 255)).toUInt32 % 65536).toInt32), (SH, s)) := hC
  subst hC
  exact Rn_ret srt326 10 rfl rfl (m_ret_c rfl h5)
theorem k_J1_charAt_3b067 {N : Nat} {xs : Nat → Int32} (a1 : Nat) (d : Nat) (h_a1 : 1000200 ≤ a1 ∧ a1 < 1000227) {s : mG} {a2 : Int32} {τ : (Int32)} (hJ : F_J1_charAt_3b067 a1 s a2 = some τ) : Rn N xs (d + 2) me326 0 [some (.ref a1), some (.int a2)] [] (SH, s) (some (.int τ), (SH, s)) := k_J1_charAt_3b067_r a1 d h_a1 hJ rfl
/-! java/lang/String.charAt(I)C -/
theorem srt322 : m_srt mc322 = true := by decide +kernel
def F_J0_charAt_5068e (sk : Nat) (s : mG) (a1 : Int32) : Option (Int32) :=
  b1 (F_J0_isLatin1_aae02 sk s) fun v2 =>
  if v2 = 0 then
    none
  else
    b1 (F_J1_charAt_3b067 (sk + 100) s a1) fun v5 =>
    if v5.toUInt32.toUInt16.toUInt32.toInt32 = v5 then
      some v5
    else none
set_option maxRecDepth 4000 in
theorem k_J0_charAt_5068e_r {N : Nat} {xs : Nat → Int32} (sk : Nat) (d : Nat) (h_sk : 1000100 ≤ sk ∧ sk < 1000127) {r : Option Value × mH} {s : mG} {a1 : Int32} {τ : (Int32)} (hJ : F_J0_charAt_5068e sk s a1 = some τ) (hC : (fun τ => r = (some (.int τ), (SH, s))) τ) : Rn N xs (d + 3) me322 0 [some (.ref sk), some (.int a1)] [] (SH, s) r := by
  unfold F_J0_charAt_5068e at hJ
  refine Rn_sq srt322 0 1 (pc' := 1) (ls' := [some (.ref sk), some (.int a1)]) (st' := [(.ref sk)]) (h1 := (SH, s)) rfl ?_
  obtain ⟨v2, h1, hJ⟩ := m_b1 hJ
  refine Rn_call srt322 1 rfl rfl rfl ⟨Nat.le_of_ble_eq_true rfl, Nat.le_of_ble_eq_true rfl, (recv_s h_sk), Nat.le_of_ble_eq_true rfl⟩ (k_J0_isLatin1_aae02 sk (d + 2) h_sk h1) (show Rn N xs (d + 3) me322 4 [some (.ref sk), some (.int a1)] [(.int v2)] (SH, s) r from ?_)
  refine Rn_sq srt322 2 1 (pc' := (if v2 = 0 then 16 else 7)) (ls' := [some (.ref sk), some (.int a1)]) (st' := []) (h1 := (SH, s)) rfl (Rn_if (fun h3 => ?_) (fun h3 => ?_))
  · replace hJ := m_ifp h3 hJ
    refine Rn_sq srt322 8 1 (pc' := 17) (ls' := [some (.ref sk), some (.int a1)]) (st' := [(.ref sk)]) (h1 := (SH, s)) rfl ?_
    refine Rn_ev srt322 9 rfl rfl rfl (op_gs0 h_sk) ?_
    cases hJ
  · replace hJ := m_ifn h3 hJ
    refine Rn_sq srt322 3 1 (pc' := 8) (ls' := [some (.ref sk), some (.int a1)]) (st' := [(.ref sk)]) (h1 := (SH, s)) rfl ?_
    refine Rn_ev srt322 4 rfl rfl rfl (op_gs0 h_sk) ?_
    refine Rn_sq srt322 5 1 (pc' := 12) (ls' := [some (.ref sk), some (.int a1)]) (st' := [(.int a1), (.ref (sk + 100))]) (h1 := (SH, s)) rfl ?_
    obtain ⟨v5, h4, hJ⟩ := m_b1 hJ
    refine Rn_call srt322 6 rfl rfl rfl ⟨Nat.le_of_ble_eq_true rfl, Nat.le_of_ble_eq_true rfl, rfl, Nat.le_of_ble_eq_true rfl⟩ (k_J1_charAt_3b067 (sk + 100) (d) (by omega) h4) (show Rn N xs (d + 3) me322 15 [some (.ref sk), some (.int a1)] [(.int v5)] (SH, s) r from ?_)
    obtain ⟨h6, hJ⟩ := m_gp hJ
    rw [← Option.some.inj hJ] at hC
    have hC : r = (some (.int v5), (SH, s)) := hC
    subst hC
    exact Rn_ret srt322 7 rfl rfl (m_ret_c rfl h6)
theorem k_J0_charAt_5068e {N : Nat} {xs : Nat → Int32} (sk : Nat) (d : Nat) (h_sk : 1000100 ≤ sk ∧ sk < 1000127) {s : mG} {a1 : Int32} {τ : (Int32)} (hJ : F_J0_charAt_5068e sk s a1 = some τ) : Rn N xs (d + 3) me322 0 [some (.ref sk), some (.int a1)] [] (SH, s) (some (.int τ), (SH, s)) := k_J0_charAt_5068e_r sk d h_sk hJ rfl
/-! IsHeIn$Reader.isWord(III)Z -/
theorem srt88 : m_srt mc88 = true := by decide +kernel
def C_X7_isWord_21 (N : Nat) (xs : Nat → Int32) (s : mG) (d : Nat) (r : Option Value × mH) (C : (Int32) → Prop) : ((Int32 × Int32 × Int32 × Int32) ⊕ (Int32)) → Prop
  | .inl v => Rn N xs (d + 4) me88 21 [some (.ref 55), some (.int v.1), some (.int v.2.1), some (.int v.2.2.1), some (.int v.2.2.2)] [] (SH, s) r
  | .inr a => C a
def F_X7_isWord_68 (s : mG) : Option (Int32) :=
  some (ci 1)
set_option maxRecDepth 4000 in
theorem k_X7_isWord_68 {N : Nat} {xs : Nat → Int32} (d : Nat) {r : Option Value × mH} {s : mG} {τ : (Int32)} (hJ : F_X7_isWord_68 s = some τ) (hC : (fun τ => r = (some (.int τ), (SH, s))) τ) : Rn N xs (d + 4) me88 68 [none, none, none, none, none] [] (SH, s) r := by
  unfold F_X7_isWord_68 at hJ
  refine Rn_sq srt88 37 1 (pc' := 69) (ls' := [none, none, none, none, none]) (st' := [(.int (ci 1))]) (h1 := (SH, s)) rfl ?_
  rw [← Option.some.inj hJ] at hC
  have hC : r = (some (.int (ci 1)), (SH, s)) := hC
  subst hC
  exact Rn_ret srt88 38 rfl rfl (m_ret_b rfl (by decide))
def F_X7_isWord_B21 (s : mG) (x1 : Int32) (x2 : Int32) (x3 : Int32) (x4 : Int32) : Option ((Int32 × Int32 × Int32 × Int32) ⊕ (Int32)) :=
  if x3 ≤ x4 then
    b1 (F_X7_isWord_68 s) fun τ => some (Sum.inr τ)
  else
    b1 (F_J0_length_8abf5 1000100 s) fun v4 =>
    if v4 ≤ x4 then
      b1 (F_X7_isWord_68 s) fun τ => some (Sum.inr τ)
    else
      b1 (F_J0_charAt_5068e 1000100 s x4) fun v7 =>
      b1 (F_X11_cell 64 s ((x1 + x4) - x2)) fun v9 =>
      if v7 = v9 then
        some (Sum.inl (x1, x2, x3, (x4 + ci 1)))
      else
        some (Sum.inr (ci 0))
set_option maxRecDepth 4000 in
theorem k_X7_isWord_B21 {N : Nat} {xs : Nat → Int32} (d : Nat) {r : Option Value × mH} {s : mG} {x1 : Int32} {x2 : Int32} {x3 : Int32} {x4 : Int32} {τ : ((Int32 × Int32 × Int32 × Int32) ⊕ (Int32))} (hJ : F_X7_isWord_B21 s x1 x2 x3 x4 = some τ) (hC : (C_X7_isWord_21 N xs s d r (fun τ => r = (some (.int τ), (SH, s)))) τ) : Rn N xs (d + 4) me88 21 [some (.ref 55), some (.int x1), some (.int x2), some (.int x3), some (.int x4)] [] (SH, s) r := by
  unfold F_X7_isWord_B21 at hJ
  refine Rn_sq srt88 14 3 (pc' := (if x3 ≤ x4 then 68 else 27)) (ls' := [some (.ref 55), some (.int x1), some (.int x2), some (.int x3), some (.int x4)]) (st' := []) (h1 := (SH, s)) rfl (Rn_if (fun h2 => ?_) (fun h2 => ?_))
  · replace hJ := m_ifp h2 hJ
    obtain ⟨τ1, hJ1, hJ⟩ := m_b1 hJ
    rw [← Option.some.inj hJ] at hC
    exact Rn_weaken (a := [none, none, none, none, none]) (b := [some (.ref 55), some (.int x1), some (.int x2), some (.int x3), some (.int x4)]) trivial rfl (k_X7_isWord_68 d hJ1 hC)
  · replace hJ := m_ifn h2 hJ
    refine Rn_sq srt88 17 2 (pc' := 31) (ls' := [some (.ref 55), some (.int x1), some (.int x2), some (.int x3), some (.int x4)]) (st' := [(.ref 1000100), (.int x4)]) (h1 := (SH, s)) rfl ?_
    obtain ⟨v4, h3, hJ⟩ := m_b1 hJ
    refine Rn_call srt88 19 rfl rfl rfl ⟨Nat.le_of_ble_eq_true rfl, Nat.le_of_ble_eq_true rfl, (recv_s (by decide)), Nat.le_of_ble_eq_true rfl⟩ (k_J0_length_8abf5 1000100 (d + 2) (by decide) h3) (show Rn N xs (d + 4) me88 34 [some (.ref 55), some (.int x1), some (.int x2), some (.int x3), some (.int x4)] [(.int v4), (.int x4)] (SH, s) r from ?_)
    refine Rn_sq srt88 20 1 (pc' := (if v4 ≤ x4 then 68 else 37)) (ls' := [some (.ref 55), some (.int x1), some (.int x2), some (.int x3), some (.int x4)]) (st' := []) (h1 := (SH, s)) rfl (Rn_if (fun h5 => ?_) (fun h5 => ?_))
    · replace hJ := m_ifp h5 hJ
      obtain ⟨τ1, hJ1, hJ⟩ := m_b1 hJ
      rw [← Option.some.inj hJ] at hC
      exact Rn_weaken (a := [none, none, none, none, none]) (b := [some (.ref 55), some (.int x1), some (.int x2), some (.int x3), some (.int x4)]) trivial rfl (k_X7_isWord_68 d hJ1 hC)
    · replace hJ := m_ifn h5 hJ
      refine Rn_sq srt88 21 2 (pc' := 41) (ls' := [some (.ref 55), some (.int x1), some (.int x2), some (.int x3), some (.int x4)]) (st' := [(.int x4), (.ref 1000100)]) (h1 := (SH, s)) rfl ?_
      obtain ⟨v7, h6, hJ⟩ := m_b1 hJ
      refine Rn_call srt88 23 rfl rfl rfl ⟨Nat.le_of_ble_eq_true rfl, Nat.le_of_ble_eq_true rfl, (recv_s (by decide)), Nat.le_of_ble_eq_true rfl⟩ (k_J0_charAt_5068e 1000100 (d) (by decide) h6) (show Rn N xs (d + 4) me88 44 [some (.ref 55), some (.int x1), some (.int x2), some (.int x3), some (.int x4)] [(.int v7)] (SH, s) r from ?_)
      refine Rn_sq srt88 24 7 (pc' := 54) (ls' := [some (.ref 55), some (.int x1), some (.int x2), some (.int x3), some (.int x4)]) (st' := [(.int ((x1 + x4) - x2)), (.ref 64), (.int v7)]) (h1 := (SH, s)) rfl ?_
      obtain ⟨v9, h8, hJ⟩ := m_b1 hJ
      refine Rn_call srt88 31 rfl rfl rfl ⟨Nat.le_of_ble_eq_true rfl, Nat.le_of_ble_eq_true rfl, rfl, Nat.le_of_ble_eq_true rfl⟩ (k_X11_cell 64 (d + 3) h8) (show Rn N xs (d + 4) me88 57 [some (.ref 55), some (.int x1), some (.int x2), some (.int x3), some (.int x4)] [(.int v9), (.int v7)] (SH, s) r from ?_)
      refine Rn_sq srt88 32 1 (pc' := (if v7 = v9 then 62 else 60)) (ls' := [some (.ref 55), some (.int x1), some (.int x2), some (.int x3), some (.int x4)]) (st' := []) (h1 := (SH, s)) rfl (Rn_if (fun h10 => ?_) (fun h10 => ?_))
      · replace hJ := m_ifp h10 hJ
        refine Rn_sq srt88 35 2 (pc' := 21) (ls' := [some (.ref 55), some (.int x1), some (.int x2), some (.int x3), some (.int (x4 + ci 1))]) (st' := []) (h1 := (SH, s)) rfl ?_
        rw [← Option.some.inj hJ] at hC
        exact hC
      · replace hJ := m_ifn h10 hJ
        refine Rn_sq srt88 33 1 (pc' := 61) (ls' := [some (.ref 55), some (.int x1), some (.int x2), some (.int x3), some (.int x4)]) (st' := [(.int (ci 0))]) (h1 := (SH, s)) rfl ?_
        rw [← Option.some.inj hJ] at hC
        have hC : r = (some (.int (ci 0)), (SH, s)) := hC
        subst hC
        exact Rn_ret srt88 34 rfl rfl (m_ret_b rfl (by decide))
def F_X7_isWord_L21 (s : mG) (x1 : Int32) (x2 : Int32) (x3 : Int32) (x4 : Int32) : Option (Int32) := whl (fun (v : (Int32 × Int32 × Int32 × Int32)) => F_X7_isWord_B21 s v.1 v.2.1 v.2.2.1 v.2.2.2) (x1, x2, x3, x4)
theorem k_X7_isWord_L21 {N : Nat} {xs : Nat → Int32} (d : Nat) {r : Option Value × mH} {s : mG} {x1 : Int32} {x2 : Int32} {x3 : Int32} {x4 : Int32} {τ : (Int32)} (hJ : F_X7_isWord_L21 s x1 x2 x3 x4 = some τ) (hC : (fun τ => r = (some (.int τ), (SH, s))) τ) : Rn N xs (d + 4) me88 21 [some (.ref 55), some (.int x1), some (.int x2), some (.int x3), some (.int x4)] [] (SH, s) r :=
  whl_link (P := fun (v : (Int32 × Int32 × Int32 × Int32)) => Rn N xs (d + 4) me88 21 [some (.ref 55), some (.int v.1), some (.int v.2.1), some (.int v.2.2.1), some (.int v.2.2.2)] [] (SH, s) r) (C := (C_X7_isWord_21 N xs s d r (fun τ => r = (some (.int τ), (SH, s))))) (fun v τ h1 h2 => k_X7_isWord_B21 d h1 h2) (fun _ h => h) (fun _ h => h) _ _ hJ hC
def F_X7_isWord (s : mG) (a1 : Int32) (a2 : Int32) (a3 : Int32) : Option (Int32) :=
  if (a3 - a2) = ((s.1 55 13) - a1) then
    F_X7_isWord_L21 s a1 a2 a3 (imax a2 (ci 0))
  else
    some (ci 0)
set_option maxRecDepth 4000 in
theorem k_X7_isWord_r {N : Nat} {xs : Nat → Int32} (d : Nat) {r : Option Value × mH} {s : mG} {a1 : Int32} {a2 : Int32} {a3 : Int32} {τ : (Int32)} (hJ : F_X7_isWord s a1 a2 a3 = some τ) (hC : (fun τ => r = (some (.int τ), (SH, s))) τ) : Rn N xs (d + 4) me88 0 [some (.ref 55), some (.int a1), some (.int a2), some (.int a3), none] [] (SH, s) r := by
  unfold F_X7_isWord at hJ
  refine Rn_sq srt88 0 8 (pc' := (if (a3 - a2) = ((s.1 55 13) - a1) then 14 else 12)) (ls' := [some (.ref 55), some (.int a1), some (.int a2), some (.int a3), none]) (st' := []) (h1 := (SH, s)) rfl (Rn_if (fun h1 => ?_) (fun h1 => ?_))
  · replace hJ := m_ifp h1 hJ
    refine Rn_sq srt88 10 4 (pc' := 21) (ls' := [some (.ref 55), some (.int a1), some (.int a2), some (.int a3), some (.int (imax a2 (ci 0)))]) (st' := []) (h1 := (SH, s)) rfl ?_
    exact (k_X7_isWord_L21 d hJ hC)
  · replace hJ := m_ifn h1 hJ
    refine Rn_sq srt88 8 1 (pc' := 13) (ls' := [some (.ref 55), some (.int a1), some (.int a2), some (.int a3), none]) (st' := [(.int (ci 0))]) (h1 := (SH, s)) rfl ?_
    rw [← Option.some.inj hJ] at hC
    have hC : r = (some (.int (ci 0)), (SH, s)) := hC
    subst hC
    exact Rn_ret srt88 9 rfl rfl (m_ret_b rfl (by decide))
theorem k_X7_isWord {N : Nat} {xs : Nat → Int32} (d : Nat) {s : mG} {a1 : Int32} {a2 : Int32} {a3 : Int32} {τ : (Int32)} (hJ : F_X7_isWord s a1 a2 a3 = some τ) : Rn N xs (d + 4) me88 0 [some (.ref 55), some (.int a1), some (.int a2), some (.int a3), none] [] (SH, s) (some (.int τ), (SH, s)) := k_X7_isWord_r d hJ rfl
end
