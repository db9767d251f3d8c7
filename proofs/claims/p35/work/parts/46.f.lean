noncomputable section
/-! IsHeInModel.looksAt(II)I -/
theorem srt265 : m_srt mc265 = true := by decide +kernel
def C_X12_looksAt_35 (N : Nat) (xs : Nat → Int32) (d : Nat) (r : Option Value × mH) (C : (Int32 × mG) → Prop) : ((Int32 × Int64 × Int32 × Int32 × Int32 × mG) ⊕ (Int32 × mG)) → Prop
  | .inl v => Rn N xs (d + 6) me265 35 [some (.ref 88), none, some (.int v.1), some (.long v.2.1), none, some (.int v.2.2.1), some (.int v.2.2.2.1), some (.int v.2.2.2.2.1)] [] (SH, v.2.2.2.2.2) r
  | .inr a => C a
def F_X12_looksAt_98 (x2 : Int32) (x6 : Int32) (s : mG) : Option (Int32 × mG) :=
  if 0 ≤ x2 then
    some (x6, s)
  else
    some ((ci (-1)), s)
set_option maxRecDepth 4000 in
theorem k_X12_looksAt_98 {N : Nat} {xs : Nat → Int32} (d : Nat) {r : Option Value × mH} {s : mG} {x2 : Int32} {x6 : Int32} {τ : (Int32 × mG)} (hJ : F_X12_looksAt_98 x2 x6 s = some τ) (hC : (fun τ => r = (some (.int τ.1), (SH, τ.2))) τ) : Rn N xs (d + 6) me265 98 [none, none, some (.int x2), none, none, none, some (.int x6), none] [] (SH, s) r := by
  unfold F_X12_looksAt_98 at hJ
  refine Rn_sq srt265 55 2 (pc' := (if 0 ≤ x2 then 106 else 102)) (ls' := [none, none, some (.int x2), none, none, none, some (.int x6), none]) (st' := []) (h1 := (SH, s)) rfl (Rn_if (fun h12 => ?_) (fun h12 => ?_))
  · replace hJ := m_ifp h12 hJ
    refine Rn_sq srt265 59 1 (pc' := 108) (ls' := [none, none, some (.int x2), none, none, none, some (.int x6), none]) (st' := [(.int x6)]) (h1 := (SH, s)) rfl ?_
    rw [← Option.some.inj hJ] at hC
    have hC : r = (some (.int x6), (SH, s)) := hC
    subst hC
    exact Rn_ret srt265 60 rfl rfl rfl
  · replace hJ := m_ifn h12 hJ
    refine Rn_sq srt265 57 2 (pc' := 108) (ls' := [none, none, some (.int x2), none, none, none, some (.int x6), none]) (st' := [(.int (ci (-1)))]) (h1 := (SH, s)) rfl ?_
    rw [← Option.some.inj hJ] at hC
    have hC : r = (some (.int (ci (-1))), (SH, s)) := hC
    subst hC
    exact Rn_ret srt265 60 rfl rfl rfl
def F_X12_looksAt_70 (x2 : Int32) (x5 : Int32) (x6 : Int32) (x7 : Int32) (y1 : Int64) (y2 : Int32) (y3 : Int32) (s : mG) : Option ((Int32 × Int64 × Int32 × Int32 × Int32 × mG) ⊕ (Int32 × mG)) :=
  b1 (F_X12_bySign s y1 y2 y3) fun v18 =>
  let v19 : Int32 := (x5 ||| ((ci 1) <<< (x6 &&& 31)))
  b1 (F_X12_nextOf s v18 v19) fun v21 =>
  some (Sum.inl (x2, v18, v19, v21, (x7 + ci 1), s))
set_option maxRecDepth 4000 in
theorem k_X12_looksAt_70 {N : Nat} {xs : Nat → Int32} (d : Nat) {r : Option Value × mH} {s : mG} {x2 : Int32} {x5 : Int32} {x6 : Int32} {x7 : Int32} {y1 : Int64} {y2 : Int32} {y3 : Int32} {τ : ((Int32 × Int64 × Int32 × Int32 × Int32 × mG) ⊕ (Int32 × mG))} (hJ : F_X12_looksAt_70 x2 x5 x6 x7 y1 y2 y3 s = some τ) (hC : (C_X12_looksAt_35 N xs d r (fun τ => r = (some (.int τ.1), (SH, τ.2)))) τ) : Rn N xs (d + 6) me265 70 [some (.ref 88), none, some (.int x2), none, none, some (.int x5), some (.int x6), some (.int x7)] [(.int y3), (.int y2), (.long y1), (.ref 88)] (SH, s) r := by
  unfold F_X12_looksAt_70 at hJ
  obtain ⟨v18, h17, hJ⟩ := m_b1 hJ
  refine Rn_call srt265 40 rfl rfl rfl ⟨Nat.le_of_ble_eq_true rfl, Nat.le_of_ble_eq_true rfl, rfl, Nat.le_of_ble_eq_true rfl⟩ (k_X12_bySign (d + 4) h17) (show Rn N xs (d + 6) me265 73 [some (.ref 88), none, some (.int x2), none, none, some (.int x5), some (.int x6), some (.int x7)] [(.long v18)] (SH, s) r from ?_)
  extract_lets +onlyGivenNames v19 at hJ
  refine Rn_sq srt265 41 10 (pc' := 87) (ls' := [some (.ref 88), none, some (.int x2), some (.long v18), none, some (.int v19), some (.int x6), some (.int x7)]) (st' := [(.int v19), (.long v18), (.ref 88)]) (h1 := (SH, s)) rfl ?_
  obtain ⟨v21, h20, hJ⟩ := m_b1 hJ
  refine Rn_call srt265 51 rfl rfl rfl ⟨Nat.le_of_ble_eq_true rfl, Nat.le_of_ble_eq_true rfl, rfl, Nat.le_of_ble_eq_true rfl⟩ (k_X12_nextOf (d + 2) h20) (show Rn N xs (d + 6) me265 90 [some (.ref 88), none, some (.int x2), some (.long v18), none, some (.int v19), some (.int x6), some (.int x7)] [(.int v21)] (SH, s) r from ?_)
  refine Rn_sq srt265 52 3 (pc' := 35) (ls' := [some (.ref 88), none, some (.int x2), some (.long v18), none, some (.int v19), some (.int v21), some (.int (x7 + ci 1))]) (st' := []) (h1 := (SH, s)) rfl ?_
  rw [← Option.some.inj hJ] at hC
  exact hC
def F_X12_looksAt_B35 (x2 : Int32) (x3 : Int64) (x5 : Int32) (x6 : Int32) (x7 : Int32) (s : mG) : Option ((Int32 × Int64 × Int32 × Int32 × Int32 × mG) ⊕ (Int32 × mG)) :=
  if x2 ≤ x7 then
    b1 (F_X12_looksAt_98 x2 x6 s) fun τ => some (Sum.inr τ)
  else
    if x6 = (ci (-1)) then
      b1 (F_X12_looksAt_98 x2 x6 s) fun τ => some (Sum.inr τ)
    else
      b1 (F_X12_seeing s x3 x6) fun v15 =>
      if (lg_cmp v15 (cl 500000)) < 0 then
        F_X12_looksAt_70 x2 x5 x6 x7 x3 x6 (ci 0) s
      else
        F_X12_looksAt_70 x2 x5 x6 x7 x3 x6 (ci 1) s
set_option maxRecDepth 4000 in
theorem k_X12_looksAt_B35 {N : Nat} {xs : Nat → Int32} (d : Nat) {r : Option Value × mH} {s : mG} {x2 : Int32} {x3 : Int64} {x5 : Int32} {x6 : Int32} {x7 : Int32} {τ : ((Int32 × Int64 × Int32 × Int32 × Int32 × mG) ⊕ (Int32 × mG))} (hJ : F_X12_looksAt_B35 x2 x3 x5 x6 x7 s = some τ) (hC : (C_X12_looksAt_35 N xs d r (fun τ => r = (some (.int τ.1), (SH, τ.2)))) τ) : Rn N xs (d + 6) me265 35 [some (.ref 88), none, some (.int x2), some (.long x3), none, some (.int x5), some (.int x6), some (.int x7)] [] (SH, s) r := by
  unfold F_X12_looksAt_B35 at hJ
  refine Rn_sq srt265 21 3 (pc' := (if x2 ≤ x7 then 98 else 41)) (ls' := [some (.ref 88), none, some (.int x2), some (.long x3), none, some (.int x5), some (.int x6), some (.int x7)]) (st' := []) (h1 := (SH, s)) rfl (Rn_if (fun h11 => ?_) (fun h11 => ?_))
  · replace hJ := m_ifp h11 hJ
    obtain ⟨τ1, hJ1, hJ⟩ := m_b1 hJ
    rw [← Option.some.inj hJ] at hC
    exact Rn_weaken (a := [none, none, some (.int x2), none, none, none, some (.int x6), none]) (b := [some (.ref 88), none, some (.int x2), some (.long x3), none, some (.int x5), some (.int x6), some (.int x7)]) (And.intro rfl (And.intro rfl trivial)) rfl (k_X12_looksAt_98 d hJ1 hC)
  · replace hJ := m_ifn h11 hJ
    refine Rn_sq srt265 24 3 (pc' := (if x6 = (ci (-1)) then 98 else 47)) (ls' := [some (.ref 88), none, some (.int x2), some (.long x3), none, some (.int x5), some (.int x6), some (.int x7)]) (st' := []) (h1 := (SH, s)) rfl (Rn_if (fun h13 => ?_) (fun h13 => ?_))
    · replace hJ := m_ifp h13 hJ
      obtain ⟨τ1, hJ1, hJ⟩ := m_b1 hJ
      rw [← Option.some.inj hJ] at hC
      exact Rn_weaken (a := [none, none, some (.int x2), none, none, none, some (.int x6), none]) (b := [some (.ref 88), none, some (.int x2), some (.long x3), none, some (.int x5), some (.int x6), some (.int x7)]) (And.intro rfl (And.intro rfl trivial)) rfl (k_X12_looksAt_98 d hJ1 hC)
    · replace hJ := m_ifn h13 hJ
      refine Rn_sq srt265 27 6 (pc' := 55) (ls' := [some (.ref 88), none, some (.int x2), some (.long x3), none, some (.int x5), some (.int x6), some (.int x7)]) (st' := [(.int x6), (.long x3), (.ref 88), (.int x6), (.long x3), (.ref 88)]) (h1 := (SH, s)) rfl ?_
      obtain ⟨v15, h14, hJ⟩ := m_b1 hJ
      refine Rn_call srt265 33 rfl rfl rfl ⟨Nat.le_of_ble_eq_true rfl, Nat.le_of_ble_eq_true rfl, rfl, Nat.le_of_ble_eq_true rfl⟩ (k_X12_seeing (d + 5) h14) (show Rn N xs (d + 6) me265 58 [some (.ref 88), none, some (.int x2), some (.long x3), none, some (.int x5), some (.int x6), some (.int x7)] [(.long v15), (.int x6), (.long x3), (.ref 88)] (SH, s) r from ?_)
      refine Rn_sq srt265 34 3 (pc' := (if (lg_cmp v15 (cl 500000)) < 0 then 69 else 65)) (ls' := [some (.ref 88), none, some (.int x2), some (.long x3), none, some (.int x5), some (.int x6), some (.int x7)]) (st' := [(.int x6), (.long x3), (.ref 88)]) (h1 := (SH, s)) rfl (Rn_if (fun h16 => ?_) (fun h16 => ?_))
      · replace hJ := m_ifp h16 hJ
        refine Rn_sq srt265 39 1 (pc' := 70) (ls' := [some (.ref 88), none, some (.int x2), some (.long x3), none, some (.int x5), some (.int x6), some (.int x7)]) (st' := [(.int (ci 0)), (.int x6), (.long x3), (.ref 88)]) (h1 := (SH, s)) rfl ?_
        exact Rn_weaken (a := [some (.ref 88), none, some (.int x2), none, none, some (.int x5), some (.int x6), some (.int x7)]) (b := [some (.ref 88), none, some (.int x2), some (.long x3), none, some (.int x5), some (.int x6), some (.int x7)]) (And.intro rfl (And.intro rfl (And.intro rfl (And.intro rfl (And.intro rfl trivial))))) rfl (k_X12_looksAt_70 d hJ hC)
      · replace hJ := m_ifn h16 hJ
        refine Rn_sq srt265 37 2 (pc' := 70) (ls' := [some (.ref 88), none, some (.int x2), some (.long x3), none, some (.int x5), some (.int x6), some (.int x7)]) (st' := [(.int (ci 1)), (.int x6), (.long x3), (.ref 88)]) (h1 := (SH, s)) rfl ?_
        exact Rn_weaken (a := [some (.ref 88), none, some (.int x2), none, none, some (.int x5), some (.int x6), some (.int x7)]) (b := [some (.ref 88), none, some (.int x2), some (.long x3), none, some (.int x5), some (.int x6), some (.int x7)]) (And.intro rfl (And.intro rfl (And.intro rfl (And.intro rfl (And.intro rfl trivial))))) rfl (k_X12_looksAt_70 d hJ hC)
def F_X12_looksAt_L35 (x2 : Int32) (x3 : Int64) (x5 : Int32) (x6 : Int32) (x7 : Int32) (s : mG) : Option (Int32 × mG) := whl (fun (v : (Int32 × Int64 × Int32 × Int32 × Int32 × mG)) => F_X12_looksAt_B35 v.1 v.2.1 v.2.2.1 v.2.2.2.1 v.2.2.2.2.1 v.2.2.2.2.2) (x2, x3, x5, x6, x7, s)
theorem k_X12_looksAt_L35 {N : Nat} {xs : Nat → Int32} (d : Nat) {r : Option Value × mH} {s : mG} {x2 : Int32} {x3 : Int64} {x5 : Int32} {x6 : Int32} {x7 : Int32} {τ : (Int32 × mG)} (hJ : F_X12_looksAt_L35 x2 x3 x5 x6 x7 s = some τ) (hC : (fun τ => r = (some (.int τ.1), (SH, τ.2))) τ) : Rn N xs (d + 6) me265 35 [some (.ref 88), none, some (.int x2), some (.long x3), none, some (.int x5), some (.int x6), some (.int x7)] [] (SH, s) r :=
  whl_link (P := fun (v : (Int32 × Int64 × Int32 × Int32 × Int32 × mG)) => Rn N xs (d + 6) me265 35 [some (.ref 88), none, some (.int v.1), some (.long v.2.1), none, some (.int v.2.2.1), some (.int v.2.2.2.1), some (.int v.2.2.2.2.1)] [] (SH, v.2.2.2.2.2) r) (C := (C_X12_looksAt_35 N xs d r (fun τ => r = (some (.int τ.1), (SH, τ.2))))) (fun v τ h1 h2 => k_X12_looksAt_B35 d h1 h2) (fun _ h => h) (fun _ h => h) _ _ hJ hC
def F_X12_looksAt (a1 : Int32) (a2 : Int32) (s : mG) : Option (Int32 × mG) :=
  b1 (F_X12_isGuest s a1) fun v2 =>
  if v2 = 0 then
    some ((ci (-1)), s)
  else
    b2 (F_X12_sureOf a1 s) fun v6 s5 =>
    b1 (F_X12_lookedAt s5 a1) fun v8 =>
    b1 (F_X12_nextOf s5 v6 v8) fun v10 =>
    F_X12_looksAt_L35 a2 v6 v8 v10 (ci 0) s5
set_option maxRecDepth 4000 in
theorem k_X12_looksAt_r {N : Nat} {xs : Nat → Int32} (d : Nat) {r : Option Value × mH} {s : mG} {a1 : Int32} {a2 : Int32} {τ : (Int32 × mG)} (hJ : F_X12_looksAt a1 a2 s = some τ) (hC : (fun τ => r = (some (.int τ.1), (SH, τ.2))) τ) : Rn N xs (d + 6) me265 0 [some (.ref 88), some (.int a1), some (.int a2), none, none, none, none, none] [] (SH, s) r := by
  unfold F_X12_looksAt at hJ
  refine Rn_sq srt265 0 2 (pc' := 2) (ls' := [some (.ref 88), some (.int a1), some (.int a2), none, none, none, none, none]) (st' := [(.int a1), (.ref 88)]) (h1 := (SH, s)) rfl ?_
  obtain ⟨v2, h1, hJ⟩ := m_b1 hJ
  refine Rn_call srt265 2 rfl rfl rfl ⟨Nat.le_of_ble_eq_true rfl, Nat.le_of_ble_eq_true rfl, rfl, Nat.le_of_ble_eq_true rfl⟩ (k_X12_isGuest (d + 4) h1) (show Rn N xs (d + 6) me265 5 [some (.ref 88), some (.int a1), some (.int a2), none, none, none, none, none] [(.int v2)] (SH, s) r from ?_)
  refine Rn_sq srt265 3 1 (pc' := (if v2 = 0 then 8 else 10)) (ls' := [some (.ref 88), some (.int a1), some (.int a2), none, none, none, none, none]) (st' := []) (h1 := (SH, s)) rfl (Rn_if (fun h3 => ?_) (fun h3 => ?_))
  · replace hJ := m_ifp h3 hJ
    refine Rn_sq srt265 4 1 (pc' := 9) (ls' := [some (.ref 88), some (.int a1), some (.int a2), none, none, none, none, none]) (st' := [(.int (ci (-1)))]) (h1 := (SH, s)) rfl ?_
    rw [← Option.some.inj hJ] at hC
    have hC : r = (some (.int (ci (-1))), (SH, s)) := hC
    subst hC
    exact Rn_ret srt265 5 rfl rfl rfl
  · replace hJ := m_ifn h3 hJ
    refine Rn_sq srt265 6 2 (pc' := 12) (ls' := [some (.ref 88), some (.int a1), some (.int a2), none, none, none, none, none]) (st' := [(.int a1), (.ref 88)]) (h1 := (SH, s)) rfl ?_
    obtain ⟨v6, s5, h4, hJ⟩ := m_b2 hJ
    refine Rn_call srt265 8 rfl rfl rfl ⟨Nat.le_of_ble_eq_true rfl, Nat.le_of_ble_eq_true rfl, rfl, Nat.le_of_ble_eq_true rfl⟩ (k_X12_sureOf (d) h4) (show Rn N xs (d + 6) me265 15 [some (.ref 88), some (.int a1), some (.int a2), none, none, none, none, none] [(.long v6)] (SH, s5) r from ?_)
    refine Rn_sq srt265 9 3 (pc' := 18) (ls' := [some (.ref 88), some (.int a1), some (.int a2), some (.long v6), none, none, none, none]) (st' := [(.int a1), (.ref 88)]) (h1 := (SH, s5)) rfl ?_
    obtain ⟨v8, h7, hJ⟩ := m_b1 hJ
    refine Rn_call srt265 12 rfl rfl rfl ⟨Nat.le_of_ble_eq_true rfl, Nat.le_of_ble_eq_true rfl, rfl, Nat.le_of_ble_eq_true rfl⟩ (k_X12_lookedAt (d + 5) h7) (show Rn N xs (d + 6) me265 21 [some (.ref 88), some (.int a1), some (.int a2), some (.long v6), none, none, none, none] [(.int v8)] (SH, s5) r from ?_)
    refine Rn_sq srt265 13 4 (pc' := 27) (ls' := [some (.ref 88), some (.int a1), some (.int a2), some (.long v6), none, some (.int v8), none, none]) (st' := [(.int v8), (.long v6), (.ref 88)]) (h1 := (SH, s5)) rfl ?_
    obtain ⟨v10, h9, hJ⟩ := m_b1 hJ
    refine Rn_call srt265 17 rfl rfl rfl ⟨Nat.le_of_ble_eq_true rfl, Nat.le_of_ble_eq_true rfl, rfl, Nat.le_of_ble_eq_true rfl⟩ (k_X12_nextOf (d + 2) h9) (show Rn N xs (d + 6) me265 30 [some (.ref 88), some (.int a1), some (.int a2), some (.long v6), none, some (.int v8), none, none] [(.int v10)] (SH, s5) r from ?_)
    refine Rn_sq srt265 18 3 (pc' := 35) (ls' := [some (.ref 88), some (.int a1), some (.int a2), some (.long v6), none, some (.int v8), some (.int v10), some (.int (ci 0))]) (st' := []) (h1 := (SH, s5)) rfl ?_
    exact Rn_weaken (a := [some (.ref 88), none, some (.int a2), some (.long v6), none, some (.int v8), some (.int v10), some (.int (ci 0))]) (b := [some (.ref 88), some (.int a1), some (.int a2), some (.long v6), none, some (.int v8), some (.int v10), some (.int (ci 0))]) (And.intro rfl (And.intro rfl (And.intro rfl (And.intro rfl (And.intro rfl (And.intro rfl trivial)))))) rfl (k_X12_looksAt_L35 d hJ hC)
theorem k_X12_looksAt {N : Nat} {xs : Nat → Int32} (d : Nat) {s : mG} {a1 : Int32} {a2 : Int32} {τ : (Int32 × mG)} (hJ : F_X12_looksAt a1 a2 s = some τ) : Rn N xs (d + 6) me265 0 [some (.ref 88), some (.int a1), some (.int a2), none, none, none, none, none] [] (SH, s) (some (.int τ.1), (SH, τ.2)) := k_X12_looksAt_r d hJ rfl
/-! IsHeInModel.isCost(I)Z -/
theorem srt266 : m_srt mc266 = true := by decide +kernel
def F_X12_isCost (s : mG) (a1 : Int32) : Option (Int32) :=
  b1 (F_X12_isIn s a1 (ci 0) (c16 9999)) fun v2 =>
  if v2 = 0 ∨ v2 = 1 then
    some v2
  else none
set_option maxRecDepth 4000 in
theorem k_X12_isCost_r {N : Nat} {xs : Nat → Int32} (d : Nat) {r : Option Value × mH} {s : mG} {a1 : Int32} {τ : (Int32)} (hJ : F_X12_isCost s a1 = some τ) (hC : (fun τ => r = (some (.int τ), (SH, s))) τ) : Rn N xs (d + 1) me266 0 [some (.int a1)] [] (SH, s) r := by
  unfold F_X12_isCost at hJ
  refine Rn_sq srt266 0 3 (pc' := 5) (ls' := [some (.int a1)]) (st' := [(.int (c16 9999)), (.int (ci 0)), (.int a1)]) (h1 := (SH, s)) rfl ?_
  obtain ⟨v2, h1, hJ⟩ := m_b1 hJ
  refine Rn_call srt266 3 rfl rfl rfl ⟨Nat.le_of_ble_eq_true rfl, Nat.le_of_ble_eq_true rfl, rfl, Nat.le_of_ble_eq_true rfl⟩ (k_X12_isIn (d) h1) (show Rn N xs (d + 1) me266 8 [some (.int a1)] [(.int v2)] (SH, s) r from ?_)
  obtain ⟨h3, hJ⟩ := m_gp hJ
  rw [← Option.some.inj hJ] at hC
  have hC : r = (some (.int v2), (SH, s)) := hC
  subst hC
  exact Rn_ret srt266 4 rfl rfl (m_ret_b rfl h3)
theorem k_X12_isCost {N : Nat} {xs : Nat → Int32} (d : Nat) {s : mG} {a1 : Int32} {τ : (Int32)} (hJ : F_X12_isCost s a1 = some τ) : Rn N xs (d + 1) me266 0 [some (.int a1)] [] (SH, s) (some (.int τ), (SH, s)) := k_X12_isCost_r d hJ rfl
/-! IsHeInModel.say(III)I -/
theorem srt267 : m_srt mc267 = true := by decide +kernel
def F_X12_say_22 (s : mG) : Option (Int32 × mG) :=
  some ((ci (-1)), s)
set_option maxRecDepth 4000 in
theorem k_X12_say_22 {N : Nat} {xs : Nat → Int32} (d : Nat) {r : Option Value × mH} {s : mG} {τ : (Int32 × mG)} (hJ : F_X12_say_22 s = some τ) (hC : (fun τ => r = (some (.int τ.1), (SH, τ.2))) τ) : Rn N xs (d + 6) me267 22 [none, none, none, none, none, none] [] (SH, s) r := by
  unfold F_X12_say_22 at hJ
  refine Rn_sq srt267 10 1 (pc' := 23) (ls' := [none, none, none, none, none, none]) (st' := [(.int (ci (-1)))]) (h1 := (SH, s)) rfl ?_
  rw [← Option.some.inj hJ] at hC
  have hC : r = (some (.int (ci (-1))), (SH, s)) := hC
  subst hC
  exact Rn_ret srt267 11 rfl rfl rfl
def F_X12_say (a1 : Int32) (a2 : Int32) (a3 : Int32) (s : mG) : Option (Int32 × mG) :=
  b1 (F_X12_isGuest s a1) fun v2 =>
  if v2 = 0 then
    F_X12_say_22 s
  else
    b1 (F_X12_isCost s a2) fun v5 =>
    if v5 = 0 then
      F_X12_say_22 s
    else
      b1 (F_X12_isCost s a3) fun v8 =>
      if v8 = 0 then
        F_X12_say_22 s
      else
        b2 (F_X12_sureOf a1 s) fun v12 s11 =>
        if 0 < (lg_cmp (((cl 1000000) - v12) * a2.toInt64) (v12 * a3.toInt64)) then
          some ((ci 0), s11)
        else
          some ((ci 1), s11)
set_option maxRecDepth 4000 in
theorem k_X12_say_r {N : Nat} {xs : Nat → Int32} (d : Nat) {r : Option Value × mH} {s : mG} {a1 : Int32} {a2 : Int32} {a3 : Int32} {τ : (Int32 × mG)} (hJ : F_X12_say a1 a2 a3 s = some τ) (hC : (fun τ => r = (some (.int τ.1), (SH, τ.2))) τ) : Rn N xs (d + 6) me267 0 [some (.ref 88), some (.int a1), some (.int a2), some (.int a3), none, none] [] (SH, s) r := by
  unfold F_X12_say at hJ
  refine Rn_sq srt267 0 2 (pc' := 2) (ls' := [some (.ref 88), some (.int a1), some (.int a2), some (.int a3), none, none]) (st' := [(.int a1), (.ref 88)]) (h1 := (SH, s)) rfl ?_
  obtain ⟨v2, h1, hJ⟩ := m_b1 hJ
  refine Rn_call srt267 2 rfl rfl rfl ⟨Nat.le_of_ble_eq_true rfl, Nat.le_of_ble_eq_true rfl, rfl, Nat.le_of_ble_eq_true rfl⟩ (k_X12_isGuest (d + 4) h1) (show Rn N xs (d + 6) me267 5 [some (.ref 88), some (.int a1), some (.int a2), some (.int a3), none, none] [(.int v2)] (SH, s) r from ?_)
  refine Rn_sq srt267 3 1 (pc' := (if v2 = 0 then 22 else 8)) (ls' := [some (.ref 88), some (.int a1), some (.int a2), some (.int a3), none, none]) (st' := []) (h1 := (SH, s)) rfl (Rn_if (fun h3 => ?_) (fun h3 => ?_))
  · replace hJ := m_ifp h3 hJ
    exact Rn_weaken (a := [none, none, none, none, none, none]) (b := [some (.ref 88), some (.int a1), some (.int a2), some (.int a3), none, none]) trivial rfl (k_X12_say_22 d hJ hC)
  · replace hJ := m_ifn h3 hJ
    refine Rn_sq srt267 4 1 (pc' := 9) (ls' := [some (.ref 88), some (.int a1), some (.int a2), some (.int a3), none, none]) (st' := [(.int a2)]) (h1 := (SH, s)) rfl ?_
    obtain ⟨v5, h4, hJ⟩ := m_b1 hJ
    refine Rn_call srt267 5 rfl rfl rfl ⟨Nat.le_of_ble_eq_true rfl, Nat.le_of_ble_eq_true rfl, rfl, Nat.le_of_ble_eq_true rfl⟩ (k_X12_isCost (d + 4) h4) (show Rn N xs (d + 6) me267 12 [some (.ref 88), some (.int a1), some (.int a2), some (.int a3), none, none] [(.int v5)] (SH, s) r from ?_)
    refine Rn_sq srt267 6 1 (pc' := (if v5 = 0 then 22 else 15)) (ls' := [some (.ref 88), some (.int a1), some (.int a2), some (.int a3), none, none]) (st' := []) (h1 := (SH, s)) rfl (Rn_if (fun h6 => ?_) (fun h6 => ?_))
    · replace hJ := m_ifp h6 hJ
      exact Rn_weaken (a := [none, none, none, none, none, none]) (b := [some (.ref 88), some (.int a1), some (.int a2), some (.int a3), none, none]) trivial rfl (k_X12_say_22 d hJ hC)
    · replace hJ := m_ifn h6 hJ
      refine Rn_sq srt267 7 1 (pc' := 16) (ls' := [some (.ref 88), some (.int a1), some (.int a2), some (.int a3), none, none]) (st' := [(.int a3)]) (h1 := (SH, s)) rfl ?_
      obtain ⟨v8, h7, hJ⟩ := m_b1 hJ
      refine Rn_call srt267 8 rfl rfl rfl ⟨Nat.le_of_ble_eq_true rfl, Nat.le_of_ble_eq_true rfl, rfl, Nat.le_of_ble_eq_true rfl⟩ (k_X12_isCost (d + 4) h7) (show Rn N xs (d + 6) me267 19 [some (.ref 88), some (.int a1), some (.int a2), some (.int a3), none, none] [(.int v8)] (SH, s) r from ?_)
      refine Rn_sq srt267 9 1 (pc' := (if v8 = 0 then 22 else 24)) (ls' := [some (.ref 88), some (.int a1), some (.int a2), some (.int a3), none, none]) (st' := []) (h1 := (SH, s)) rfl (Rn_if (fun h9 => ?_) (fun h9 => ?_))
      · replace hJ := m_ifp h9 hJ
        exact Rn_weaken (a := [none, none, none, none, none, none]) (b := [some (.ref 88), some (.int a1), some (.int a2), some (.int a3), none, none]) trivial rfl (k_X12_say_22 d hJ hC)
      · replace hJ := m_ifn h9 hJ
        refine Rn_sq srt267 12 2 (pc' := 26) (ls' := [some (.ref 88), some (.int a1), some (.int a2), some (.int a3), none, none]) (st' := [(.int a1), (.ref 88)]) (h1 := (SH, s)) rfl ?_
        obtain ⟨v12, s11, h10, hJ⟩ := m_b2 hJ
        refine Rn_call srt267 14 rfl rfl rfl ⟨Nat.le_of_ble_eq_true rfl, Nat.le_of_ble_eq_true rfl, rfl, Nat.le_of_ble_eq_true rfl⟩ (k_X12_sureOf (d) h10) (show Rn N xs (d + 6) me267 29 [some (.ref 88), some (.int a1), some (.int a2), some (.int a3), none, none] [(.long v12)] (SH, s11) r from ?_)
        refine Rn_sq srt267 15 13 (pc' := (if 0 < (lg_cmp (((cl 1000000) - v12) * a2.toInt64) (v12 * a3.toInt64)) then 53 else 49)) (ls' := [some (.ref 88), some (.int a1), some (.int a2), some (.int a3), some (.long v12), none]) (st' := []) (h1 := (SH, s11)) rfl (Rn_if (fun h13 => ?_) (fun h13 => ?_))
        · replace hJ := m_ifp h13 hJ
          refine Rn_sq srt267 30 1 (pc' := 54) (ls' := [some (.ref 88), some (.int a1), some (.int a2), some (.int a3), some (.long v12), none]) (st' := [(.int (ci 0))]) (h1 := (SH, s11)) rfl ?_
          rw [← Option.some.inj hJ] at hC
          have hC : r = (some (.int (ci 0)), (SH, s11)) := hC
          subst hC
          exact Rn_ret srt267 31 rfl rfl rfl
        · replace hJ := m_ifn h13 hJ
          refine Rn_sq srt267 28 2 (pc' := 54) (ls' := [some (.ref 88), some (.int a1), some (.int a2), some (.int a3), some (.long v12), none]) (st' := [(.int (ci 1))]) (h1 := (SH, s11)) rfl ?_
          rw [← Option.some.inj hJ] at hC
          have hC : r = (some (.int (ci 1)), (SH, s11)) := hC
          subst hC
          exact Rn_ret srt267 31 rfl rfl rfl
theorem k_X12_say {N : Nat} {xs : Nat → Int32} (d : Nat) {s : mG} {a1 : Int32} {a2 : Int32} {a3 : Int32} {τ : (Int32 × mG)} (hJ : F_X12_say a1 a2 a3 s = some τ) : Rn N xs (d + 6) me267 0 [some (.ref 88), some (.int a1), some (.int a2), some (.int a3), none, none] [] (SH, s) (some (.int τ.1), (SH, τ.2)) := k_X12_say_r d hJ rfl
/-! IsHeInModel.caller(III)I -/
theorem srt268 : m_srt mc268 = true := by decide +kernel
def F_X12_caller_59 (s : mG) : Option (Int32 × mG) :=
  some ((ci (-1)), s)
set_option maxRecDepth 4000 in
theorem k_X12_caller_59 {N : Nat} {xs : Nat → Int32} (d : Nat) {r : Option Value × mH} {s : mG} {τ : (Int32 × mG)} (hJ : F_X12_caller_59 s = some τ) (hC : (fun τ => r = (some (.int τ.1), (SH, τ.2))) τ) : Rn N xs (d + 2) me268 59 [none, none, none, none, none] [] (SH, s) r := by
  unfold F_X12_caller_59 at hJ
  refine Rn_sq srt268 30 1 (pc' := 60) (ls' := [none, none, none, none, none]) (st' := [(.int (ci (-1)))]) (h1 := (SH, s)) rfl ?_
  rw [← Option.some.inj hJ] at hC
  have hC : r = (some (.int (ci (-1))), (SH, s)) := hC
  subst hC
  exact Rn_ret srt268 31 rfl rfl rfl
def F_X12_caller (a1 : Int32) (a2 : Int32) (a3 : Int32) (s : mG) : Option (Int32 × mG) :=
  if a1 = (ci (-1)) then
    let s2 : mG := (mu s.1 89 1049 (ci 0), s.2)
    some ((ci 0), s2)
  else
    b1 (F_X12_isGuest s a1) fun v4 =>
    if v4 = 0 then
      F_X12_caller_59 s
    else
      b1 (F_X12_isIn s a2 (ci 0) (c16 999)) fun v7 =>
      if v7 = 0 then
        F_X12_caller_59 s
      else
        b1 (F_X12_isIn s a3 (ci 0) (c16 999)) fun v10 =>
        if v10 = 0 then
          F_X12_caller_59 s
        else
          if (s.1 89 1049) = (c8 8) then
            F_X12_caller_59 s
          else
            let v13 : Int32 := ((c16 1870) + ((ci 3) * (s.1 89 1049)))
            if v13 < 0 ∨ 1894 ≤ v13.toNatClampNeg then none else
            let s15 : mG := (mu s.1 89 v13.toNatClampNeg a1, s.2)
            if (v13 + (ci 1)) < 0 ∨ 1894 ≤ (v13 + (ci 1)).toNatClampNeg then none else
            let s17 : mG := (mu s15.1 89 (v13 + (ci 1)).toNatClampNeg a2, s15.2)
            if (v13 + (ci 2)) < 0 ∨ 1894 ≤ (v13 + (ci 2)).toNatClampNeg then none else
            let s19 : mG := (mu s17.1 89 (v13 + (ci 2)).toNatClampNeg a3, s17.2)
            let s20 : mG := (mu s19.1 89 1049 ((s19.1 89 1049) + (ci 1)), s19.2)
            some ((s20.1 89 1049), s20)
set_option maxRecDepth 4000 in
theorem k_X12_caller_r {N : Nat} {xs : Nat → Int32} (d : Nat) {r : Option Value × mH} {s : mG} {a1 : Int32} {a2 : Int32} {a3 : Int32} {τ : (Int32 × mG)} (hJ : F_X12_caller a1 a2 a3 s = some τ) (hC : (fun τ => r = (some (.int τ.1), (SH, τ.2))) τ) : Rn N xs (d + 2) me268 0 [some (.ref 88), some (.int a1), some (.int a2), some (.int a3), none] [] (SH, s) r := by
  unfold F_X12_caller at hJ
  refine Rn_sq srt268 0 3 (pc' := (if a1 = (ci (-1)) then 5 else 16)) (ls' := [some (.ref 88), some (.int a1), some (.int a2), some (.int a3), none]) (st' := []) (h1 := (SH, s)) rfl (Rn_if (fun h1 => ?_) (fun h1 => ?_))
  · replace hJ := m_ifp h1 hJ
    refine Rn_sq srt268 3 4 (pc' := 13) (ls' := [some (.ref 88), some (.int a1), some (.int a2), some (.int a3), none]) (st' := [(.int (ci 0)), (.int (c16 1049)), (.ref 89)]) (h1 := (SH, s)) rfl ?_
    extract_lets +onlyGivenNames s2 at hJ
    refine Rn_ev srt268 7 rfl rfl rfl (op_ias sh89 (by decide) (k := 1049) rfl) ?_
    refine Rn_sq srt268 8 1 (pc' := 15) (ls' := [some (.ref 88), some (.int a1), some (.int a2), some (.int a3), none]) (st' := [(.int (ci 0))]) (h1 := (SH, s2)) rfl ?_
    rw [← Option.some.inj hJ] at hC
    have hC : r = (some (.int (ci 0)), (SH, s2)) := hC
    subst hC
    exact Rn_ret srt268 9 rfl rfl rfl
  · replace hJ := m_ifn h1 hJ
    refine Rn_sq srt268 10 2 (pc' := 18) (ls' := [some (.ref 88), some (.int a1), some (.int a2), some (.int a3), none]) (st' := [(.int a1), (.ref 88)]) (h1 := (SH, s)) rfl ?_
    obtain ⟨v4, h3, hJ⟩ := m_b1 hJ
    refine Rn_call srt268 12 rfl rfl rfl ⟨Nat.le_of_ble_eq_true rfl, Nat.le_of_ble_eq_true rfl, rfl, Nat.le_of_ble_eq_true rfl⟩ (k_X12_isGuest (d) h3) (show Rn N xs (d + 2) me268 21 [some (.ref 88), some (.int a1), some (.int a2), some (.int a3), none] [(.int v4)] (SH, s) r from ?_)
    refine Rn_sq srt268 13 1 (pc' := (if v4 = 0 then 59 else 24)) (ls' := [some (.ref 88), some (.int a1), some (.int a2), some (.int a3), none]) (st' := []) (h1 := (SH, s)) rfl (Rn_if (fun h5 => ?_) (fun h5 => ?_))
    · replace hJ := m_ifp h5 hJ
      exact Rn_weaken (a := [none, none, none, none, none]) (b := [some (.ref 88), some (.int a1), some (.int a2), some (.int a3), none]) trivial rfl (k_X12_caller_59 d hJ hC)
    · replace hJ := m_ifn h5 hJ
      refine Rn_sq srt268 14 3 (pc' := 29) (ls' := [some (.ref 88), some (.int a1), some (.int a2), some (.int a3), none]) (st' := [(.int (c16 999)), (.int (ci 0)), (.int a2)]) (h1 := (SH, s)) rfl ?_
      obtain ⟨v7, h6, hJ⟩ := m_b1 hJ
      refine Rn_call srt268 17 rfl rfl rfl ⟨Nat.le_of_ble_eq_true rfl, Nat.le_of_ble_eq_true rfl, rfl, Nat.le_of_ble_eq_true rfl⟩ (k_X12_isIn (d + 1) h6) (show Rn N xs (d + 2) me268 32 [some (.ref 88), some (.int a1), some (.int a2), some (.int a3), none] [(.int v7)] (SH, s) r from ?_)
      refine Rn_sq srt268 18 1 (pc' := (if v7 = 0 then 59 else 35)) (ls' := [some (.ref 88), some (.int a1), some (.int a2), some (.int a3), none]) (st' := []) (h1 := (SH, s)) rfl (Rn_if (fun h8 => ?_) (fun h8 => ?_))
      · replace hJ := m_ifp h8 hJ
        exact Rn_weaken (a := [none, none, none, none, none]) (b := [some (.ref 88), some (.int a1), some (.int a2), some (.int a3), none]) trivial rfl (k_X12_caller_59 d hJ hC)
      · replace hJ := m_ifn h8 hJ
        refine Rn_sq srt268 19 3 (pc' := 40) (ls' := [some (.ref 88), some (.int a1), some (.int a2), some (.int a3), none]) (st' := [(.int (c16 999)), (.int (ci 0)), (.int a3)]) (h1 := (SH, s)) rfl ?_
        obtain ⟨v10, h9, hJ⟩ := m_b1 hJ
        refine Rn_call srt268 22 rfl rfl rfl ⟨Nat.le_of_ble_eq_true rfl, Nat.le_of_ble_eq_true rfl, rfl, Nat.le_of_ble_eq_true rfl⟩ (k_X12_isIn (d + 1) h9) (show Rn N xs (d + 2) me268 43 [some (.ref 88), some (.int a1), some (.int a2), some (.int a3), none] [(.int v10)] (SH, s) r from ?_)
        refine Rn_sq srt268 23 1 (pc' := (if v10 = 0 then 59 else 46)) (ls' := [some (.ref 88), some (.int a1), some (.int a2), some (.int a3), none]) (st' := []) (h1 := (SH, s)) rfl (Rn_if (fun h11 => ?_) (fun h11 => ?_))
        · replace hJ := m_ifp h11 hJ
          exact Rn_weaken (a := [none, none, none, none, none]) (b := [some (.ref 88), some (.int a1), some (.int a2), some (.int a3), none]) trivial rfl (k_X12_caller_59 d hJ hC)
        · replace hJ := m_ifn h11 hJ
          refine Rn_sq srt268 24 3 (pc' := 53) (ls' := [some (.ref 88), some (.int a1), some (.int a2), some (.int a3), none]) (st' := [(.int (c16 1049)), (.ref 89)]) (h1 := (SH, s)) rfl ?_
          refine Rn_ev srt268 27 rfl rfl rfl (op_ia sh89 (by decide) (k := 1049) rfl) ?_
          refine Rn_sq srt268 28 2 (pc' := (if (s.1 89 1049) = (c8 8) then 59 else 61)) (ls' := [some (.ref 88), some (.int a1), some (.int a2), some (.int a3), none]) (st' := []) (h1 := (SH, s)) rfl (Rn_if (fun h12 => ?_) (fun h12 => ?_))
          · replace hJ := m_ifp h12 hJ
            exact Rn_weaken (a := [none, none, none, none, none]) (b := [some (.ref 88), some (.int a1), some (.int a2), some (.int a3), none]) trivial rfl (k_X12_caller_59 d hJ hC)
          · replace hJ := m_ifn h12 hJ
            refine Rn_sq srt268 32 5 (pc' := 72) (ls' := [some (.ref 88), some (.int a1), some (.int a2), some (.int a3), none]) (st' := [(.int (c16 1049)), (.ref 89), (.int (ci 3)), (.int (c16 1870))]) (h1 := (SH, s)) rfl ?_
            refine Rn_ev srt268 37 rfl rfl rfl (op_ia sh89 (by decide) (k := 1049) rfl) ?_
            extract_lets +onlyGivenNames v13 at hJ
            refine Rn_sq srt268 38 7 (pc' := 84) (ls' := [some (.ref 88), some (.int a1), some (.int a2), some (.int a3), some (.int v13)]) (st' := [(.int a1), (.int v13), (.ref 89)]) (h1 := (SH, s)) rfl ?_
            obtain ⟨h14, hJ⟩ := m_gn hJ
            extract_lets +onlyGivenNames s15 at hJ
            refine Rn_ev srt268 45 rfl rfl rfl (op_ias sh89 h14 (k := v13.toNatClampNeg) rfl) ?_
            refine Rn_sq srt268 46 6 (pc' := 94) (ls' := [some (.ref 88), some (.int a1), some (.int a2), some (.int a3), some (.int v13)]) (st' := [(.int a2), (.int (v13 + (ci 1))), (.ref 89)]) (h1 := (SH, s15)) rfl ?_
            obtain ⟨h16, hJ⟩ := m_gn hJ
            extract_lets +onlyGivenNames s17 at hJ
            refine Rn_ev srt268 52 rfl rfl rfl (op_ias sh89 h16 (k := (v13 + (ci 1)).toNatClampNeg) rfl) ?_
            refine Rn_sq srt268 53 6 (pc' := 104) (ls' := [some (.ref 88), some (.int a1), some (.int a2), some (.int a3), some (.int v13)]) (st' := [(.int a3), (.int (v13 + (ci 2))), (.ref 89)]) (h1 := (SH, s17)) rfl ?_
            obtain ⟨h18, hJ⟩ := m_gn hJ
            extract_lets +onlyGivenNames s19 at hJ
            refine Rn_ev srt268 59 rfl rfl rfl (op_ias sh89 h18 (k := (v13 + (ci 2)).toNatClampNeg) rfl) ?_
            refine Rn_sq srt268 60 4 (pc' := 113) (ls' := [some (.ref 88), some (.int a1), some (.int a2), some (.int a3), some (.int v13)]) (st' := [(.int (c16 1049)), (.ref 89), (.int (c16 1049)), (.ref 89)]) (h1 := (SH, s19)) rfl ?_
            refine Rn_ev srt268 64 rfl rfl rfl (op_ia sh89 (by decide) (k := 1049) rfl) ?_
            refine Rn_sq srt268 65 2 (pc' := 116) (ls' := [some (.ref 88), some (.int a1), some (.int a2), some (.int a3), some (.int v13)]) (st' := [(.int ((s19.1 89 1049) + (ci 1))), (.int (c16 1049)), (.ref 89)]) (h1 := (SH, s19)) rfl ?_
            extract_lets +onlyGivenNames s20 at hJ
            refine Rn_ev srt268 67 rfl rfl rfl (op_ias sh89 (by decide) (k := 1049) rfl) ?_
            refine Rn_sq srt268 68 3 (pc' := 124) (ls' := [some (.ref 88), some (.int a1), some (.int a2), some (.int a3), some (.int v13)]) (st' := [(.int (c16 1049)), (.ref 89)]) (h1 := (SH, s20)) rfl ?_
            refine Rn_ev srt268 71 rfl rfl rfl (op_ia sh89 (by decide) (k := 1049) rfl) ?_
            rw [← Option.some.inj hJ] at hC
            have hC : r = (some (.int (s20.1 89 1049)), (SH, s20)) := hC
            subst hC
            exact Rn_ret srt268 72 rfl rfl rfl
theorem k_X12_caller {N : Nat} {xs : Nat → Int32} (d : Nat) {s : mG} {a1 : Int32} {a2 : Int32} {a3 : Int32} {τ : (Int32 × mG)} (hJ : F_X12_caller a1 a2 a3 s = some τ) : Rn N xs (d + 2) me268 0 [some (.ref 88), some (.int a1), some (.int a2), some (.int a3), none] [] (SH, s) (some (.int τ.1), (SH, τ.2)) := k_X12_caller_r d hJ rfl
/-! IsHeInModel.said(I)I -/
theorem srt269 : m_srt mc269 = true := by decide +kernel
def C_X12_said_18 (N : Nat) (xs : Nat → Int32) (d : Nat) (r : Option Value × mH) (C : (Int32 × mG) → Prop) : ((Int32 × Int32 × Int32 × Int32 × mG) ⊕ (Int32 × mG)) → Prop
  | .inl v => Rn N xs (d + 7) me269 18 [some (.ref 88), some (.int v.1), some (.int v.2.1), some (.int v.2.2.1), some (.int v.2.2.2.1), none, none, none, none] [] (SH, v.2.2.2.2) r
  | .inr a => C a
def F_X12_said_149 (x1 : Int32) (x2 : Int32) (x4 : Int32) (y0 : Int32) (y1 : Int64) (s : mG) : Option ((Int32 × Int32 × Int32 × Int32 × mG) ⊕ (Int32 × mG)) :=
  let v21 : Int32 := (y0 + (y1 / (cl 1000000)).toInt32)
  some (Sum.inl (x1, x2, v21, (x4 + ci 1), s))
set_option maxRecDepth 4000 in
theorem k_X12_said_149 {N : Nat} {xs : Nat → Int32} (d : Nat) {r : Option Value × mH} {s : mG} {x1 : Int32} {x2 : Int32} {x4 : Int32} {y0 : Int32} {y1 : Int64} {τ : ((Int32 × Int32 × Int32 × Int32 × mG) ⊕ (Int32 × mG))} (hJ : F_X12_said_149 x1 x2 x4 y0 y1 s = some τ) (hC : (C_X12_said_18 N xs d r (fun τ => r = (some (.int τ.1), (SH, τ.2)))) τ) : Rn N xs (d + 7) me269 149 [some (.ref 88), some (.int x1), some (.int x2), none, some (.int x4), none, none, none, none] [(.long y1), (.int y0)] (SH, s) r := by
  unfold F_X12_said_149 at hJ
  refine Rn_sq srt269 90 1 (pc' := 152) (ls' := [some (.ref 88), some (.int x1), some (.int x2), none, some (.int x4), none, none, none, none]) (st' := [(.long (cl 1000000)), (.long y1), (.int y0)]) (h1 := (SH, s)) rfl ?_
  refine Rn_ev srt269 91 rfl rfl rfl (op_ldiv (by decide)) ?_
  extract_lets +onlyGivenNames v21 at hJ
  refine Rn_sq srt269 92 5 (pc' := 18) (ls' := [some (.ref 88), some (.int x1), some (.int x2), some (.int v21), some (.int (x4 + ci 1)), none, none, none, none]) (st' := []) (h1 := (SH, s)) rfl ?_
  rw [← Option.some.inj hJ] at hC
  exact hC
def F_X12_said_108 (x1 : Int32) (x3 : Int32) (x4 : Int32) (x5 : Int32) (x6 : Int32) (x7 : Int64) (y0 : Int32) (y1 : Int32) (s : mG) : Option ((Int32 × Int32 × Int32 × Int32 × mG) ⊕ (Int32 × mG)) :=
  if x6 = 0 then
    if (x5 + (ci 2)) < 0 ∨ 1894 ≤ (x5 + (ci 2)).toNatClampNeg then none else
    F_X12_said_149 x1 (y0 ||| y1) x4 x3 (x7 * (s.1 89 (x5 + (ci 2)).toNatClampNeg).toInt64) s
  else
    if (x5 + (ci 1)) < 0 ∨ 1894 ≤ (x5 + (ci 1)).toNatClampNeg then none else
    F_X12_said_149 x1 (y0 ||| y1) x4 x3 (((cl 1000000) - x7) * (s.1 89 (x5 + (ci 1)).toNatClampNeg).toInt64) s
set_option maxRecDepth 4000 in
theorem k_X12_said_108 {N : Nat} {xs : Nat → Int32} (d : Nat) {r : Option Value × mH} {s : mG} {x1 : Int32} {x3 : Int32} {x4 : Int32} {x5 : Int32} {x6 : Int32} {x7 : Int64} {y0 : Int32} {y1 : Int32} {τ : ((Int32 × Int32 × Int32 × Int32 × mG) ⊕ (Int32 × mG))} (hJ : F_X12_said_108 x1 x3 x4 x5 x6 x7 y0 y1 s = some τ) (hC : (C_X12_said_18 N xs d r (fun τ => r = (some (.int τ.1), (SH, τ.2)))) τ) : Rn N xs (d + 7) me269 108 [some (.ref 88), some (.int x1), none, some (.int x3), some (.int x4), some (.int x5), some (.int x6), some (.long x7), none] [(.int y1), (.int y0)] (SH, s) r := by
  unfold F_X12_said_108 at hJ
  refine Rn_sq srt269 64 5 (pc' := (if x6 = 0 then 136 else 116)) (ls' := [some (.ref 88), some (.int x1), some (.int (y0 ||| y1)), some (.int x3), some (.int x4), some (.int x5), some (.int x6), some (.long x7), none]) (st' := [(.int x3)]) (h1 := (SH, s)) rfl (Rn_if (fun h19 => ?_) (fun h19 => ?_))
  · replace hJ := m_ifp h19 hJ
    refine Rn_sq srt269 81 6 (pc' := 146) (ls' := [some (.ref 88), some (.int x1), some (.int (y0 ||| y1)), some (.int x3), some (.int x4), some (.int x5), some (.int x6), some (.long x7), none]) (st' := [(.int (x5 + (ci 2))), (.ref 89), (.long x7), (.int x3)]) (h1 := (SH, s)) rfl ?_
    obtain ⟨h20, hJ⟩ := m_gn hJ
    refine Rn_ev srt269 87 rfl rfl rfl (op_ia sh89 h20 (k := (x5 + (ci 2)).toNatClampNeg) rfl) ?_
    refine Rn_sq srt269 88 2 (pc' := 149) (ls' := [some (.ref 88), some (.int x1), some (.int (y0 ||| y1)), some (.int x3), some (.int x4), some (.int x5), some (.int x6), some (.long x7), none]) (st' := [(.long (x7 * (s.1 89 (x5 + (ci 2)).toNatClampNeg).toInt64)), (.int x3)]) (h1 := (SH, s)) rfl ?_
    exact Rn_weaken (a := [some (.ref 88), some (.int x1), some (.int (y0 ||| y1)), none, some (.int x4), none, none, none, none]) (b := [some (.ref 88), some (.int x1), some (.int (y0 ||| y1)), some (.int x3), some (.int x4), some (.int x5), some (.int x6), some (.long x7), none]) (And.intro rfl (And.intro rfl (And.intro rfl (And.intro rfl trivial)))) rfl (k_X12_said_149 d hJ hC)
  · replace hJ := m_ifn h19 hJ
    refine Rn_sq srt269 69 8 (pc' := 130) (ls' := [some (.ref 88), some (.int x1), some (.int (y0 ||| y1)), some (.int x3), some (.int x4), some (.int x5), some (.int x6), some (.long x7), none]) (st' := [(.int (x5 + (ci 1))), (.ref 89), (.long ((cl 1000000) - x7)), (.int x3)]) (h1 := (SH, s)) rfl ?_
    obtain ⟨h22, hJ⟩ := m_gn hJ
    refine Rn_ev srt269 77 rfl rfl rfl (op_ia sh89 h22 (k := (x5 + (ci 1)).toNatClampNeg) rfl) ?_
    refine Rn_sq srt269 78 3 (pc' := 149) (ls' := [some (.ref 88), some (.int x1), some (.int (y0 ||| y1)), some (.int x3), some (.int x4), some (.int x5), some (.int x6), some (.long x7), none]) (st' := [(.long (((cl 1000000) - x7) * (s.1 89 (x5 + (ci 1)).toNatClampNeg).toInt64)), (.int x3)]) (h1 := (SH, s)) rfl ?_
    exact Rn_weaken (a := [some (.ref 88), some (.int x1), some (.int (y0 ||| y1)), none, some (.int x4), none, none, none, none]) (b := [some (.ref 88), some (.int x1), some (.int (y0 ||| y1)), some (.int x3), some (.int x4), some (.int x5), some (.int x6), some (.long x7), none]) (And.intro rfl (And.intro rfl (And.intro rfl (And.intro rfl trivial)))) rfl (k_X12_said_149 d hJ hC)
def F_X12_said_79 (x1 : Int32) (x2 : Int32) (x3 : Int32) (x4 : Int32) (x5 : Int32) (y0 : Int32) (s : mG) : Option ((Int32 × Int32 × Int32 × Int32 × mG) ⊕ (Int32 × mG)) :=
  if x5 < 0 ∨ 1894 ≤ x5.toNatClampNeg then none else
  b2 (F_X12_sureOf (s.1 89 x5.toNatClampNeg) s) fun v17 s16 =>
  if y0 = 0 then
    F_X12_said_108 x1 x3 x4 x5 y0 v17 x2 (ci 0) s16
  else
    F_X12_said_108 x1 x3 x4 x5 y0 v17 x2 ((ci 1) <<< (x4 &&& 31)) s16
set_option maxRecDepth 4000 in
theorem k_X12_said_79 {N : Nat} {xs : Nat → Int32} (d : Nat) {r : Option Value × mH} {s : mG} {x1 : Int32} {x2 : Int32} {x3 : Int32} {x4 : Int32} {x5 : Int32} {y0 : Int32} {τ : ((Int32 × Int32 × Int32 × Int32 × mG) ⊕ (Int32 × mG))} (hJ : F_X12_said_79 x1 x2 x3 x4 x5 y0 s = some τ) (hC : (C_X12_said_18 N xs d r (fun τ => r = (some (.int τ.1), (SH, τ.2)))) τ) : Rn N xs (d + 7) me269 79 [some (.ref 88), some (.int x1), some (.int x2), some (.int x3), some (.int x4), some (.int x5), none, none, none] [(.int y0)] (SH, s) r := by
  unfold F_X12_said_79 at hJ
  refine Rn_sq srt269 48 5 (pc' := 88) (ls' := [some (.ref 88), some (.int x1), some (.int x2), some (.int x3), some (.int x4), some (.int x5), some (.int y0), none, none]) (st' := [(.int x5), (.ref 89), (.ref 88)]) (h1 := (SH, s)) rfl ?_
  obtain ⟨h14, hJ⟩ := m_gn hJ
  refine Rn_ev srt269 53 rfl rfl rfl (op_ia sh89 h14 (k := x5.toNatClampNeg) rfl) ?_
  obtain ⟨v17, s16, h15, hJ⟩ := m_b2 hJ
  refine Rn_call srt269 54 rfl rfl rfl ⟨Nat.le_of_ble_eq_true rfl, Nat.le_of_ble_eq_true rfl, rfl, Nat.le_of_ble_eq_true rfl⟩ (k_X12_sureOf (d + 1) h15) (show Rn N xs (d + 7) me269 92 [some (.ref 88), some (.int x1), some (.int x2), some (.int x3), some (.int x4), some (.int x5), some (.int y0), none, none] [(.long v17)] (SH, s16) r from ?_)
  refine Rn_sq srt269 55 4 (pc' := (if y0 = 0 then 107 else 100)) (ls' := [some (.ref 88), some (.int x1), some (.int x2), some (.int x3), some (.int x4), some (.int x5), some (.int y0), some (.long v17), none]) (st' := [(.int x2)]) (h1 := (SH, s16)) rfl (Rn_if (fun h18 => ?_) (fun h18 => ?_))
  · replace hJ := m_ifp h18 hJ
    refine Rn_sq srt269 63 1 (pc' := 108) (ls' := [some (.ref 88), some (.int x1), some (.int x2), some (.int x3), some (.int x4), some (.int x5), some (.int y0), some (.long v17), none]) (st' := [(.int (ci 0)), (.int x2)]) (h1 := (SH, s16)) rfl ?_
    exact Rn_weaken (a := [some (.ref 88), some (.int x1), none, some (.int x3), some (.int x4), some (.int x5), some (.int y0), some (.long v17), none]) (b := [some (.ref 88), some (.int x1), some (.int x2), some (.int x3), some (.int x4), some (.int x5), some (.int y0), some (.long v17), none]) (And.intro rfl (And.intro rfl (And.intro rfl (And.intro rfl (And.intro rfl (And.intro rfl (And.intro rfl trivial))))))) rfl (k_X12_said_108 d hJ hC)
  · replace hJ := m_ifn h18 hJ
    refine Rn_sq srt269 59 4 (pc' := 108) (ls' := [some (.ref 88), some (.int x1), some (.int x2), some (.int x3), some (.int x4), some (.int x5), some (.int y0), some (.long v17), none]) (st' := [(.int ((ci 1) <<< (x4 &&& 31))), (.int x2)]) (h1 := (SH, s16)) rfl ?_
    exact Rn_weaken (a := [some (.ref 88), some (.int x1), none, some (.int x3), some (.int x4), some (.int x5), some (.int y0), some (.long v17), none]) (b := [some (.ref 88), some (.int x1), some (.int x2), some (.int x3), some (.int x4), some (.int x5), some (.int y0), some (.long v17), none]) (And.intro rfl (And.intro rfl (And.intro rfl (And.intro rfl (And.intro rfl (And.intro rfl (And.intro rfl trivial))))))) rfl (k_X12_said_108 d hJ hC)
def F_X12_said_B18 (x1 : Int32) (x2 : Int32) (x3 : Int32) (x4 : Int32) (s : mG) : Option ((Int32 × Int32 × Int32 × Int32 × mG) ⊕ (Int32 × mG)) :=
  if (s.1 89 1049) ≤ x4 then
    if x1 = 0 then
      some (Sum.inr (x2, s))
    else
      some (Sum.inr (x3, s))
  else
    let v6 : Int32 := ((c16 1870) + ((ci 3) * x4))
    if v6 < 0 ∨ 1894 ≤ v6.toNatClampNeg then none else
    if (v6 + (ci 1)) < 0 ∨ 1894 ≤ (v6 + (ci 1)).toNatClampNeg then none else
    if (v6 + (ci 2)) < 0 ∨ 1894 ≤ (v6 + (ci 2)).toNatClampNeg then none else
    b2 (F_X12_say (s.1 89 v6.toNatClampNeg) (s.1 89 (v6 + (ci 1)).toNatClampNeg) (s.1 89 (v6 + (ci 2)).toNatClampNeg) s) fun v12 s11 =>
    if v12 = (ci 1) then
      F_X12_said_79 x1 x2 x3 x4 v6 (ci 1) s11
    else
      F_X12_said_79 x1 x2 x3 x4 v6 (ci 0) s11
set_option maxRecDepth 4000 in
theorem k_X12_said_B18 {N : Nat} {xs : Nat → Int32} (d : Nat) {r : Option Value × mH} {s : mG} {x1 : Int32} {x2 : Int32} {x3 : Int32} {x4 : Int32} {τ : ((Int32 × Int32 × Int32 × Int32 × mG) ⊕ (Int32 × mG))} (hJ : F_X12_said_B18 x1 x2 x3 x4 s = some τ) (hC : (C_X12_said_18 N xs d r (fun τ => r = (some (.int τ.1), (SH, τ.2)))) τ) : Rn N xs (d + 7) me269 18 [some (.ref 88), some (.int x1), some (.int x2), some (.int x3), some (.int x4), none, none, none, none] [] (SH, s) r := by
  unfold F_X12_said_B18 at hJ
  refine Rn_sq srt269 13 4 (pc' := 27) (ls' := [some (.ref 88), some (.int x1), some (.int x2), some (.int x3), some (.int x4), none, none, none, none]) (st' := [(.int (c16 1049)), (.ref 89), (.int x4)]) (h1 := (SH, s)) rfl ?_
  refine Rn_ev srt269 17 rfl rfl rfl (op_ia sh89 (by decide) (k := 1049) rfl) ?_
  refine Rn_sq srt269 18 1 (pc' := (if (s.1 89 1049) ≤ x4 then 162 else 31)) (ls' := [some (.ref 88), some (.int x1), some (.int x2), some (.int x3), some (.int x4), none, none, none, none]) (st' := []) (h1 := (SH, s)) rfl (Rn_if (fun h4 => ?_) (fun h4 => ?_))
  · replace hJ := m_ifp h4 hJ
    refine Rn_sq srt269 97 2 (pc' := (if x1 = 0 then 166 else 170)) (ls' := [some (.ref 88), some (.int x1), some (.int x2), some (.int x3), some (.int x4), none, none, none, none]) (st' := []) (h1 := (SH, s)) rfl (Rn_if (fun h5 => ?_) (fun h5 => ?_))
    · replace hJ := m_ifp h5 hJ
      refine Rn_sq srt269 99 2 (pc' := 171) (ls' := [some (.ref 88), some (.int x1), some (.int x2), some (.int x3), some (.int x4), none, none, none, none]) (st' := [(.int x2)]) (h1 := (SH, s)) rfl ?_
      rw [← Option.some.inj hJ] at hC
      have hC : r = (some (.int x2), (SH, s)) := hC
      subst hC
      exact Rn_ret srt269 102 rfl rfl rfl
    · replace hJ := m_ifn h5 hJ
      refine Rn_sq srt269 101 1 (pc' := 171) (ls' := [some (.ref 88), some (.int x1), some (.int x2), some (.int x3), some (.int x4), none, none, none, none]) (st' := [(.int x3)]) (h1 := (SH, s)) rfl ?_
      rw [← Option.some.inj hJ] at hC
      have hC : r = (some (.int x3), (SH, s)) := hC
      subst hC
      exact Rn_ret srt269 102 rfl rfl rfl
  · replace hJ := m_ifn h4 hJ
    extract_lets +onlyGivenNames v6 at hJ
    refine Rn_sq srt269 19 10 (pc' := 48) (ls' := [some (.ref 88), some (.int x1), some (.int x2), some (.int x3), some (.int x4), some (.int v6), none, none, none]) (st' := [(.int v6), (.ref 89), (.ref 88)]) (h1 := (SH, s)) rfl ?_
    obtain ⟨h7, hJ⟩ := m_gn hJ
    refine Rn_ev srt269 29 rfl rfl rfl (op_ia sh89 h7 (k := v6.toNatClampNeg) rfl) ?_
    refine Rn_sq srt269 30 5 (pc' := 57) (ls' := [some (.ref 88), some (.int x1), some (.int x2), some (.int x3), some (.int x4), some (.int v6), none, none, none]) (st' := [(.int (v6 + (ci 1))), (.ref 89), (.int (s.1 89 v6.toNatClampNeg)), (.ref 88)]) (h1 := (SH, s)) rfl ?_
    obtain ⟨h8, hJ⟩ := m_gn hJ
    refine Rn_ev srt269 35 rfl rfl rfl (op_ia sh89 h8 (k := (v6 + (ci 1)).toNatClampNeg) rfl) ?_
    refine Rn_sq srt269 36 5 (pc' := 66) (ls' := [some (.ref 88), some (.int x1), some (.int x2), some (.int x3), some (.int x4), some (.int v6), none, none, none]) (st' := [(.int (v6 + (ci 2))), (.ref 89), (.int (s.1 89 (v6 + (ci 1)).toNatClampNeg)), (.int (s.1 89 v6.toNatClampNeg)), (.ref 88)]) (h1 := (SH, s)) rfl ?_
    obtain ⟨h9, hJ⟩ := m_gn hJ
    refine Rn_ev srt269 41 rfl rfl rfl (op_ia sh89 h9 (k := (v6 + (ci 2)).toNatClampNeg) rfl) ?_
    obtain ⟨v12, s11, h10, hJ⟩ := m_b2 hJ
    refine Rn_call srt269 42 rfl rfl rfl ⟨Nat.le_of_ble_eq_true rfl, Nat.le_of_ble_eq_true rfl, rfl, Nat.le_of_ble_eq_true rfl⟩ (k_X12_say (d) h10) (show Rn N xs (d + 7) me269 70 [some (.ref 88), some (.int x1), some (.int x2), some (.int x3), some (.int x4), some (.int v6), none, none, none] [(.int v12)] (SH, s11) r from ?_)
    refine Rn_sq srt269 43 2 (pc' := (if v12 = (ci 1) then 74 else 78)) (ls' := [some (.ref 88), some (.int x1), some (.int x2), some (.int x3), some (.int x4), some (.int v6), none, none, none]) (st' := []) (h1 := (SH, s11)) rfl (Rn_if (fun h13 => ?_) (fun h13 => ?_))
    · replace hJ := m_ifp h13 hJ
      refine Rn_sq srt269 45 2 (pc' := 79) (ls' := [some (.ref 88), some (.int x1), some (.int x2), some (.int x3), some (.int x4), some (.int v6), none, none, none]) (st' := [(.int (ci 1))]) (h1 := (SH, s11)) rfl ?_
      exact (k_X12_said_79 d hJ hC)
    · replace hJ := m_ifn h13 hJ
      refine Rn_sq srt269 47 1 (pc' := 79) (ls' := [some (.ref 88), some (.int x1), some (.int x2), some (.int x3), some (.int x4), some (.int v6), none, none, none]) (st' := [(.int (ci 0))]) (h1 := (SH, s11)) rfl ?_
      exact (k_X12_said_79 d hJ hC)
def F_X12_said_L18 (x1 : Int32) (x2 : Int32) (x3 : Int32) (x4 : Int32) (s : mG) : Option (Int32 × mG) := whl (fun (v : (Int32 × Int32 × Int32 × Int32 × mG)) => F_X12_said_B18 v.1 v.2.1 v.2.2.1 v.2.2.2.1 v.2.2.2.2) (x1, x2, x3, x4, s)
theorem k_X12_said_L18 {N : Nat} {xs : Nat → Int32} (d : Nat) {r : Option Value × mH} {s : mG} {x1 : Int32} {x2 : Int32} {x3 : Int32} {x4 : Int32} {τ : (Int32 × mG)} (hJ : F_X12_said_L18 x1 x2 x3 x4 s = some τ) (hC : (fun τ => r = (some (.int τ.1), (SH, τ.2))) τ) : Rn N xs (d + 7) me269 18 [some (.ref 88), some (.int x1), some (.int x2), some (.int x3), some (.int x4), none, none, none, none] [] (SH, s) r :=
  whl_link (P := fun (v : (Int32 × Int32 × Int32 × Int32 × mG)) => Rn N xs (d + 7) me269 18 [some (.ref 88), some (.int v.1), some (.int v.2.1), some (.int v.2.2.1), some (.int v.2.2.2.1), none, none, none, none] [] (SH, v.2.2.2.2) r) (C := (C_X12_said_18 N xs d r (fun τ => r = (some (.int τ.1), (SH, τ.2))))) (fun v τ h1 h2 => k_X12_said_B18 d h1 h2) (fun _ h => h) (fun _ h => h) _ _ hJ hC
def F_X12_said (a1 : Int32) (s : mG) : Option (Int32 × mG) :=
  b1 (F_X12_isIn s a1 (ci 0) (ci 1)) fun v2 =>
  if v2 = 0 then
    some ((ci (-1)), s)
  else
    F_X12_said_L18 a1 (ci 0) (ci 0) (ci 0) s
set_option maxRecDepth 4000 in
theorem k_X12_said_r {N : Nat} {xs : Nat → Int32} (d : Nat) {r : Option Value × mH} {s : mG} {a1 : Int32} {τ : (Int32 × mG)} (hJ : F_X12_said a1 s = some τ) (hC : (fun τ => r = (some (.int τ.1), (SH, τ.2))) τ) : Rn N xs (d + 7) me269 0 [some (.ref 88), some (.int a1), none, none, none, none, none, none, none] [] (SH, s) r := by
  unfold F_X12_said at hJ
  refine Rn_sq srt269 0 3 (pc' := 3) (ls' := [some (.ref 88), some (.int a1), none, none, none, none, none, none, none]) (st' := [(.int (ci 1)), (.int (ci 0)), (.int a1)]) (h1 := (SH, s)) rfl ?_
  obtain ⟨v2, h1, hJ⟩ := m_b1 hJ
  refine Rn_call srt269 3 rfl rfl rfl ⟨Nat.le_of_ble_eq_true rfl, Nat.le_of_ble_eq_true rfl, rfl, Nat.le_of_ble_eq_true rfl⟩ (k_X12_isIn (d + 6) h1) (show Rn N xs (d + 7) me269 6 [some (.ref 88), some (.int a1), none, none, none, none, none, none, none] [(.int v2)] (SH, s) r from ?_)
  refine Rn_sq srt269 4 1 (pc' := (if v2 = 0 then 9 else 11)) (ls' := [some (.ref 88), some (.int a1), none, none, none, none, none, none, none]) (st' := []) (h1 := (SH, s)) rfl (Rn_if (fun h3 => ?_) (fun h3 => ?_))
  · replace hJ := m_ifp h3 hJ
    refine Rn_sq srt269 5 1 (pc' := 10) (ls' := [some (.ref 88), some (.int a1), none, none, none, none, none, none, none]) (st' := [(.int (ci (-1)))]) (h1 := (SH, s)) rfl ?_
    rw [← Option.some.inj hJ] at hC
    have hC : r = (some (.int (ci (-1))), (SH, s)) := hC
    subst hC
    exact Rn_ret srt269 6 rfl rfl rfl
  · replace hJ := m_ifn h3 hJ
    refine Rn_sq srt269 7 6 (pc' := 18) (ls' := [some (.ref 88), some (.int a1), some (.int (ci 0)), some (.int (ci 0)), some (.int (ci 0)), none, none, none, none]) (st' := []) (h1 := (SH, s)) rfl ?_
    exact (k_X12_said_L18 d hJ hC)
theorem k_X12_said {N : Nat} {xs : Nat → Int32} (d : Nat) {s : mG} {a1 : Int32} {τ : (Int32 × mG)} (hJ : F_X12_said a1 s = some τ) : Rn N xs (d + 7) me269 0 [some (.ref 88), some (.int a1), none, none, none, none, none, none, none] [] (SH, s) (some (.int τ.1), (SH, τ.2)) := k_X12_said_r d hJ rfl
/-! IsHeInModel.pair(I)I -/
theorem srt270 : m_srt mc270 = true := by decide +kernel
def F_X12_pair_20 (s : mG) : Option (Int32 × mG) :=
  some ((ci (-1)), s)
set_option maxRecDepth 4000 in
theorem k_X12_pair_20 {N : Nat} {xs : Nat → Int32} (d : Nat) {r : Option Value × mH} {s : mG} {τ : (Int32 × mG)} (hJ : F_X12_pair_20 s = some τ) (hC : (fun τ => r = (some (.int τ.1), (SH, τ.2))) τ) : Rn N xs (d + 6) me270 20 [none, none, none, none, none, none, none, none, none, none] [] (SH, s) r := by
  unfold F_X12_pair_20 at hJ
  refine Rn_sq srt270 11 1 (pc' := 21) (ls' := [none, none, none, none, none, none, none, none, none, none]) (st' := [(.int (ci (-1)))]) (h1 := (SH, s)) rfl ?_
  rw [← Option.some.inj hJ] at hC
  have hC : r = (some (.int (ci (-1))), (SH, s)) := hC
  subst hC
  exact Rn_ret srt270 12 rfl rfl rfl
def C_X12_pair_35 (N : Nat) (xs : Nat → Int32) (d : Nat) (r : Option Value × mH) (C : (Int32 × mG) → Prop) : ((Int32 × Int64 × Int32 × Int32 × Int32 × mG) ⊕ (Int32 × mG)) → Prop
  | .inl v => Rn N xs (d + 6) me270 35 [some (.ref 88), some (.int v.1), some (.long v.2.1), none, some (.int v.2.2.1), some (.int v.2.2.2.1), some (.int v.2.2.2.2.1), none, none, none] [] (SH, v.2.2.2.2.2) r
  | .inr a => C a
def C_X12_pair_53 (N : Nat) (xs : Nat → Int32) (d : Nat) (r : Option Value × mH) (C : ((Int32 × Int64 × Int32 × Int32 × Int32 × mG) ⊕ (Int32 × mG)) → Prop) : ((Int32 × Int64 × Int32 × Int32 × Int32 × Int32 × mG) ⊕ ((Int32 × Int64 × Int32 × Int32 × Int32 × mG) ⊕ (Int32 × mG))) → Prop
  | .inl v => Rn N xs (d + 6) me270 53 [some (.ref 88), some (.int v.1), some (.long v.2.1), none, some (.int v.2.2.1), some (.int v.2.2.2.1), some (.int v.2.2.2.2.1), some (.int v.2.2.2.2.2.1), none, none] [] (SH, v.2.2.2.2.2.2) r
  | .inr a => C a
def F_X12_pair_105 (x1 : Int32) (x2 : Int64) (x4 : Int32) (x5 : Int32) (x6 : Int32) (x7 : Int32) (s : mG) : Option ((Int32 × Int64 × Int32 × Int32 × Int32 × Int32 × mG) ⊕ ((Int32 × Int64 × Int32 × Int32 × Int32 × mG) ⊕ (Int32 × mG))) :=
  some (Sum.inl (x1, x2, x4, x5, x6, (x7 + ci 1), s))
set_option maxRecDepth 4000 in
theorem k_X12_pair_105 {N : Nat} {xs : Nat → Int32} (d : Nat) {r : Option Value × mH} {s : mG} {x1 : Int32} {x2 : Int64} {x4 : Int32} {x5 : Int32} {x6 : Int32} {x7 : Int32} {τ : ((Int32 × Int64 × Int32 × Int32 × Int32 × Int32 × mG) ⊕ ((Int32 × Int64 × Int32 × Int32 × Int32 × mG) ⊕ (Int32 × mG)))} (hJ : F_X12_pair_105 x1 x2 x4 x5 x6 x7 s = some τ) (hC : (C_X12_pair_53 N xs d r (C_X12_pair_35 N xs d r (fun τ => r = (some (.int τ.1), (SH, τ.2))))) τ) : Rn N xs (d + 6) me270 105 [some (.ref 88), some (.int x1), some (.long x2), none, some (.int x4), some (.int x5), some (.int x6), some (.int x7), none, none] [] (SH, s) r := by
  unfold F_X12_pair_105 at hJ
  refine Rn_sq srt270 58 2 (pc' := 53) (ls' := [some (.ref 88), some (.int x1), some (.long x2), none, some (.int x4), some (.int x5), some (.int x6), some (.int (x7 + ci 1)), none, none]) (st' := []) (h1 := (SH, s)) rfl ?_
  rw [← Option.some.inj hJ] at hC
  exact hC
def F_X12_pair_B53 (x1 : Int32) (x2 : Int64) (x4 : Int32) (x5 : Int32) (x6 : Int32) (x7 : Int32) (s : mG) : Option ((Int32 × Int64 × Int32 × Int32 × Int32 × Int32 × mG) ⊕ ((Int32 × Int64 × Int32 × Int32 × Int32 × mG) ⊕ (Int32 × mG))) :=
  if (s.1 89 112) ≤ x7 then
    some (Sum.inr (Sum.inl (x1, x2, x4, x5, (x6 + ci 1), s)))
  else
    b2 (F_X12_sureOf x6 s) fun v11 s10 =>
    b2 (F_X12_sureOf x7 s10) fun v14 s13 =>
    let v15 : Int64 := ((v11 * v14) / (cl 1000000))
    if 0 < (lg_cmp v15 x2) then
      F_X12_pair_105 x1 v15 x6 x7 x6 x7 s13
    else
      F_X12_pair_105 x1 x2 x4 x5 x6 x7 s13
set_option maxRecDepth 4000 in
theorem k_X12_pair_B53 {N : Nat} {xs : Nat → Int32} (d : Nat) {r : Option Value × mH} {s : mG} {x1 : Int32} {x2 : Int64} {x4 : Int32} {x5 : Int32} {x6 : Int32} {x7 : Int32} {τ : ((Int32 × Int64 × Int32 × Int32 × Int32 × Int32 × mG) ⊕ ((Int32 × Int64 × Int32 × Int32 × Int32 × mG) ⊕ (Int32 × mG)))} (hJ : F_X12_pair_B53 x1 x2 x4 x5 x6 x7 s = some τ) (hC : (C_X12_pair_53 N xs d r (C_X12_pair_35 N xs d r (fun τ => r = (some (.int τ.1), (SH, τ.2))))) τ) : Rn N xs (d + 6) me270 53 [some (.ref 88), some (.int x1), some (.long x2), none, some (.int x4), some (.int x5), some (.int x6), some (.int x7), none, none] [] (SH, s) r := by
  unfold F_X12_pair_B53 at hJ
  refine Rn_sq srt270 31 4 (pc' := 61) (ls' := [some (.ref 88), some (.int x1), some (.long x2), none, some (.int x4), some (.int x5), some (.int x6), some (.int x7), none, none]) (st' := [(.int (c8 112)), (.ref 89), (.int x7)]) (h1 := (SH, s)) rfl ?_
  refine Rn_ev srt270 35 rfl rfl rfl (op_ia sh89 (by decide) (k := 112) rfl) ?_
  refine Rn_sq srt270 36 1 (pc' := (if (s.1 89 112) ≤ x7 then 111 else 65)) (ls' := [some (.ref 88), some (.int x1), some (.long x2), none, some (.int x4), some (.int x5), some (.int x6), some (.int x7), none, none]) (st' := []) (h1 := (SH, s)) rfl (Rn_if (fun h8 => ?_) (fun h8 => ?_))
  · replace hJ := m_ifp h8 hJ
    refine Rn_sq srt270 60 2 (pc' := 35) (ls' := [some (.ref 88), some (.int x1), some (.long x2), none, some (.int x4), some (.int x5), some (.int (x6 + ci 1)), some (.int x7), none, none]) (st' := []) (h1 := (SH, s)) rfl ?_
    rw [← Option.some.inj hJ] at hC
    exact Rn_weaken (a := [some (.ref 88), some (.int x1), some (.long x2), none, some (.int x4), some (.int x5), some (.int (x6 + ci 1)), none, none, none]) (b := [some (.ref 88), some (.int x1), some (.long x2), none, some (.int x4), some (.int x5), some (.int (x6 + ci 1)), some (.int x7), none, none]) (And.intro rfl (And.intro rfl (And.intro rfl (And.intro rfl (And.intro rfl (And.intro rfl trivial)))))) rfl hC
  · replace hJ := m_ifn h8 hJ
    refine Rn_sq srt270 37 2 (pc' := 68) (ls' := [some (.ref 88), some (.int x1), some (.long x2), none, some (.int x4), some (.int x5), some (.int x6), some (.int x7), none, none]) (st' := [(.int x6), (.ref 88)]) (h1 := (SH, s)) rfl ?_
    obtain ⟨v11, s10, h9, hJ⟩ := m_b2 hJ
    refine Rn_call srt270 39 rfl rfl rfl ⟨Nat.le_of_ble_eq_true rfl, Nat.le_of_ble_eq_true rfl, rfl, Nat.le_of_ble_eq_true rfl⟩ (k_X12_sureOf (d) h9) (show Rn N xs (d + 6) me270 71 [some (.ref 88), some (.int x1), some (.long x2), none, some (.int x4), some (.int x5), some (.int x6), some (.int x7), none, none] [(.long v11)] (SH, s10) r from ?_)
    refine Rn_sq srt270 40 2 (pc' := 74) (ls' := [some (.ref 88), some (.int x1), some (.long x2), none, some (.int x4), some (.int x5), some (.int x6), some (.int x7), none, none]) (st' := [(.int x7), (.ref 88), (.long v11)]) (h1 := (SH, s10)) rfl ?_
    obtain ⟨v14, s13, h12, hJ⟩ := m_b2 hJ
    refine Rn_call srt270 42 rfl rfl rfl ⟨Nat.le_of_ble_eq_true rfl, Nat.le_of_ble_eq_true rfl, rfl, Nat.le_of_ble_eq_true rfl⟩ (k_X12_sureOf (d) h12) (show Rn N xs (d + 6) me270 77 [some (.ref 88), some (.int x1), some (.long x2), none, some (.int x4), some (.int x5), some (.int x6), some (.int x7), none, none] [(.long v14), (.long v11)] (SH, s13) r from ?_)
    refine Rn_sq srt270 43 2 (pc' := 81) (ls' := [some (.ref 88), some (.int x1), some (.long x2), none, some (.int x4), some (.int x5), some (.int x6), some (.int x7), none, none]) (st' := [(.long (cl 1000000)), (.long (v11 * v14))]) (h1 := (SH, s13)) rfl ?_
    refine Rn_ev srt270 45 rfl rfl rfl (op_ldiv (by decide)) ?_
    extract_lets +onlyGivenNames v15 at hJ
    refine Rn_sq srt270 46 5 (pc' := (if 0 < (lg_cmp v15 x2) then 94 else 91)) (ls' := [some (.ref 88), some (.int x1), some (.long x2), none, some (.int x4), some (.int x5), some (.int x6), some (.int x7), some (.long v15), none]) (st' := []) (h1 := (SH, s13)) rfl (Rn_if (fun h16 => ?_) (fun h16 => ?_))
    · replace hJ := m_ifp h16 hJ
      refine Rn_sq srt270 52 6 (pc' := 105) (ls' := [some (.ref 88), some (.int x1), some (.long v15), none, some (.int x6), some (.int x7), some (.int x6), some (.int x7), some (.long v15), none]) (st' := []) (h1 := (SH, s13)) rfl ?_
      exact Rn_weaken (a := [some (.ref 88), some (.int x1), some (.long v15), none, some (.int x6), some (.int x7), some (.int x6), some (.int x7), none, none]) (b := [some (.ref 88), some (.int x1), some (.long v15), none, some (.int x6), some (.int x7), some (.int x6), some (.int x7), some (.long v15), none]) (And.intro rfl (And.intro rfl (And.intro rfl (And.intro rfl (And.intro rfl (And.intro rfl (And.intro rfl trivial))))))) rfl (k_X12_pair_105 d hJ hC)
    · replace hJ := m_ifn h16 hJ
      refine Rn_sq srt270 51 1 (pc' := 105) (ls' := [some (.ref 88), some (.int x1), some (.long x2), none, some (.int x4), some (.int x5), some (.int x6), some (.int x7), some (.long v15), none]) (st' := []) (h1 := (SH, s13)) rfl ?_
      exact Rn_weaken (a := [some (.ref 88), some (.int x1), some (.long x2), none, some (.int x4), some (.int x5), some (.int x6), some (.int x7), none, none]) (b := [some (.ref 88), some (.int x1), some (.long x2), none, some (.int x4), some (.int x5), some (.int x6), some (.int x7), some (.long v15), none]) (And.intro rfl (And.intro rfl (And.intro rfl (And.intro rfl (And.intro rfl (And.intro rfl (And.intro rfl trivial))))))) rfl (k_X12_pair_105 d hJ hC)
def F_X12_pair_L53 (x1 : Int32) (x2 : Int64) (x4 : Int32) (x5 : Int32) (x6 : Int32) (x7 : Int32) (s : mG) : Option ((Int32 × Int64 × Int32 × Int32 × Int32 × mG) ⊕ (Int32 × mG)) := whl (fun (v : (Int32 × Int64 × Int32 × Int32 × Int32 × Int32 × mG)) => F_X12_pair_B53 v.1 v.2.1 v.2.2.1 v.2.2.2.1 v.2.2.2.2.1 v.2.2.2.2.2.1 v.2.2.2.2.2.2) (x1, x2, x4, x5, x6, x7, s)
theorem k_X12_pair_L53 {N : Nat} {xs : Nat → Int32} (d : Nat) {r : Option Value × mH} {s : mG} {x1 : Int32} {x2 : Int64} {x4 : Int32} {x5 : Int32} {x6 : Int32} {x7 : Int32} {τ : ((Int32 × Int64 × Int32 × Int32 × Int32 × mG) ⊕ (Int32 × mG))} (hJ : F_X12_pair_L53 x1 x2 x4 x5 x6 x7 s = some τ) (hC : (C_X12_pair_35 N xs d r (fun τ => r = (some (.int τ.1), (SH, τ.2)))) τ) : Rn N xs (d + 6) me270 53 [some (.ref 88), some (.int x1), some (.long x2), none, some (.int x4), some (.int x5), some (.int x6), some (.int x7), none, none] [] (SH, s) r :=
  whl_link (P := fun (v : (Int32 × Int64 × Int32 × Int32 × Int32 × Int32 × mG)) => Rn N xs (d + 6) me270 53 [some (.ref 88), some (.int v.1), some (.long v.2.1), none, some (.int v.2.2.1), some (.int v.2.2.2.1), some (.int v.2.2.2.2.1), some (.int v.2.2.2.2.2.1), none, none] [] (SH, v.2.2.2.2.2.2) r) (C := (C_X12_pair_53 N xs d r (C_X12_pair_35 N xs d r (fun τ => r = (some (.int τ.1), (SH, τ.2)))))) (fun v τ h1 h2 => k_X12_pair_B53 d h1 h2) (fun _ h => h) (fun _ h => h) _ _ hJ hC
def F_X12_pair_B35 (x1 : Int32) (x2 : Int64) (x4 : Int32) (x5 : Int32) (x6 : Int32) (s : mG) : Option ((Int32 × Int64 × Int32 × Int32 × Int32 × mG) ⊕ (Int32 × mG)) :=
  if (s.1 89 112) ≤ x6 then
    if x1 = 0 then
      some (Sum.inr (x4, s))
    else
      if x1 = (ci 1) then
        some (Sum.inr (x5, s))
      else
        some (Sum.inr (x2.toInt32, s))
  else
    F_X12_pair_L53 x1 x2 x4 x5 x6 (x6 + (ci 1)) s
set_option maxRecDepth 4000 in
theorem k_X12_pair_B35 {N : Nat} {xs : Nat → Int32} (d : Nat) {r : Option Value × mH} {s : mG} {x1 : Int32} {x2 : Int64} {x4 : Int32} {x5 : Int32} {x6 : Int32} {τ : ((Int32 × Int64 × Int32 × Int32 × Int32 × mG) ⊕ (Int32 × mG))} (hJ : F_X12_pair_B35 x1 x2 x4 x5 x6 s = some τ) (hC : (C_X12_pair_35 N xs d r (fun τ => r = (some (.int τ.1), (SH, τ.2)))) τ) : Rn N xs (d + 6) me270 35 [some (.ref 88), some (.int x1), some (.long x2), none, some (.int x4), some (.int x5), some (.int x6), none, none, none] [] (SH, s) r := by
  unfold F_X12_pair_B35 at hJ
  refine Rn_sq srt270 21 4 (pc' := 43) (ls' := [some (.ref 88), some (.int x1), some (.long x2), none, some (.int x4), some (.int x5), some (.int x6), none, none, none]) (st' := [(.int (c8 112)), (.ref 89), (.int x6)]) (h1 := (SH, s)) rfl ?_
  refine Rn_ev srt270 25 rfl rfl rfl (op_ia sh89 (by decide) (k := 112) rfl) ?_
  refine Rn_sq srt270 26 1 (pc' := (if (s.1 89 112) ≤ x6 then 117 else 47)) (ls' := [some (.ref 88), some (.int x1), some (.long x2), none, some (.int x4), some (.int x5), some (.int x6), none, none, none]) (st' := []) (h1 := (SH, s)) rfl (Rn_if (fun h5 => ?_) (fun h5 => ?_))
  · replace hJ := m_ifp h5 hJ
    refine Rn_sq srt270 62 2 (pc' := (if x1 = 0 then 121 else 126)) (ls' := [some (.ref 88), some (.int x1), some (.long x2), none, some (.int x4), some (.int x5), some (.int x6), none, none, none]) (st' := []) (h1 := (SH, s)) rfl (Rn_if (fun h6 => ?_) (fun h6 => ?_))
    · replace hJ := m_ifp h6 hJ
      refine Rn_sq srt270 64 2 (pc' := 138) (ls' := [some (.ref 88), some (.int x1), some (.long x2), none, some (.int x4), some (.int x5), some (.int x6), none, none, none]) (st' := [(.int x4)]) (h1 := (SH, s)) rfl ?_
      rw [← Option.some.inj hJ] at hC
      have hC : r = (some (.int x4), (SH, s)) := hC
      subst hC
      exact Rn_ret srt270 73 rfl rfl rfl
    · replace hJ := m_ifn h6 hJ
      refine Rn_sq srt270 66 3 (pc' := (if x1 = (ci 1) then 131 else 136)) (ls' := [some (.ref 88), some (.int x1), some (.long x2), none, some (.int x4), some (.int x5), some (.int x6), none, none, none]) (st' := []) (h1 := (SH, s)) rfl (Rn_if (fun h7 => ?_) (fun h7 => ?_))
      · replace hJ := m_ifp h7 hJ
        refine Rn_sq srt270 69 2 (pc' := 138) (ls' := [some (.ref 88), some (.int x1), some (.long x2), none, some (.int x4), some (.int x5), some (.int x6), none, none, none]) (st' := [(.int x5)]) (h1 := (SH, s)) rfl ?_
        rw [← Option.some.inj hJ] at hC
        have hC : r = (some (.int x5), (SH, s)) := hC
        subst hC
        exact Rn_ret srt270 73 rfl rfl rfl
      · replace hJ := m_ifn h7 hJ
        refine Rn_sq srt270 71 2 (pc' := 138) (ls' := [some (.ref 88), some (.int x1), some (.long x2), none, some (.int x4), some (.int x5), some (.int x6), none, none, none]) (st' := [(.int x2.toInt32)]) (h1 := (SH, s)) rfl ?_
        rw [← Option.some.inj hJ] at hC
        have hC : r = (some (.int x2.toInt32), (SH, s)) := hC
        subst hC
        exact Rn_ret srt270 73 rfl rfl rfl
  · replace hJ := m_ifn h5 hJ
    refine Rn_sq srt270 27 4 (pc' := 53) (ls' := [some (.ref 88), some (.int x1), some (.long x2), none, some (.int x4), some (.int x5), some (.int x6), some (.int (x6 + (ci 1))), none, none]) (st' := []) (h1 := (SH, s)) rfl ?_
    exact (k_X12_pair_L53 d hJ hC)
def F_X12_pair_L35 (x1 : Int32) (x2 : Int64) (x4 : Int32) (x5 : Int32) (x6 : Int32) (s : mG) : Option (Int32 × mG) := whl (fun (v : (Int32 × Int64 × Int32 × Int32 × Int32 × mG)) => F_X12_pair_B35 v.1 v.2.1 v.2.2.1 v.2.2.2.1 v.2.2.2.2.1 v.2.2.2.2.2) (x1, x2, x4, x5, x6, s)
theorem k_X12_pair_L35 {N : Nat} {xs : Nat → Int32} (d : Nat) {r : Option Value × mH} {s : mG} {x1 : Int32} {x2 : Int64} {x4 : Int32} {x5 : Int32} {x6 : Int32} {τ : (Int32 × mG)} (hJ : F_X12_pair_L35 x1 x2 x4 x5 x6 s = some τ) (hC : (fun τ => r = (some (.int τ.1), (SH, τ.2))) τ) : Rn N xs (d + 6) me270 35 [some (.ref 88), some (.int x1), some (.long x2), none, some (.int x4), some (.int x5), some (.int x6), none, none, none] [] (SH, s) r :=
  whl_link (P := fun (v : (Int32 × Int64 × Int32 × Int32 × Int32 × mG)) => Rn N xs (d + 6) me270 35 [some (.ref 88), some (.int v.1), some (.long v.2.1), none, some (.int v.2.2.1), some (.int v.2.2.2.1), some (.int v.2.2.2.2.1), none, none, none] [] (SH, v.2.2.2.2.2) r) (C := (C_X12_pair_35 N xs d r (fun τ => r = (some (.int τ.1), (SH, τ.2))))) (fun v τ h1 h2 => k_X12_pair_B35 d h1 h2) (fun _ h => h) (fun _ h => h) _ _ hJ hC
def F_X12_pair (a1 : Int32) (s : mG) : Option (Int32 × mG) :=
  b1 (F_X12_isIn s a1 (ci 0) (ci 2)) fun v2 =>
  if v2 = 0 then
    F_X12_pair_20 s
  else
    if (ci 2) ≤ (s.1 89 112) then
      F_X12_pair_L35 a1 (cl (-1)) (ci (-1)) (ci (-1)) (ci 0) s
    else
      F_X12_pair_20 s
set_option maxRecDepth 4000 in
theorem k_X12_pair_r {N : Nat} {xs : Nat → Int32} (d : Nat) {r : Option Value × mH} {s : mG} {a1 : Int32} {τ : (Int32 × mG)} (hJ : F_X12_pair a1 s = some τ) (hC : (fun τ => r = (some (.int τ.1), (SH, τ.2))) τ) : Rn N xs (d + 6) me270 0 [some (.ref 88), some (.int a1), none, none, none, none, none, none, none, none] [] (SH, s) r := by
  unfold F_X12_pair at hJ
  refine Rn_sq srt270 0 3 (pc' := 3) (ls' := [some (.ref 88), some (.int a1), none, none, none, none, none, none, none, none]) (st' := [(.int (ci 2)), (.int (ci 0)), (.int a1)]) (h1 := (SH, s)) rfl ?_
  obtain ⟨v2, h1, hJ⟩ := m_b1 hJ
  refine Rn_call srt270 3 rfl rfl rfl ⟨Nat.le_of_ble_eq_true rfl, Nat.le_of_ble_eq_true rfl, rfl, Nat.le_of_ble_eq_true rfl⟩ (k_X12_isIn (d + 5) h1) (show Rn N xs (d + 6) me270 6 [some (.ref 88), some (.int a1), none, none, none, none, none, none, none, none] [(.int v2)] (SH, s) r from ?_)
  refine Rn_sq srt270 4 1 (pc' := (if v2 = 0 then 20 else 9)) (ls' := [some (.ref 88), some (.int a1), none, none, none, none, none, none, none, none]) (st' := []) (h1 := (SH, s)) rfl (Rn_if (fun h3 => ?_) (fun h3 => ?_))
  · replace hJ := m_ifp h3 hJ
    exact Rn_weaken (a := [none, none, none, none, none, none, none, none, none, none]) (b := [some (.ref 88), some (.int a1), none, none, none, none, none, none, none, none]) trivial rfl (k_X12_pair_20 d hJ hC)
  · replace hJ := m_ifn h3 hJ
    refine Rn_sq srt270 5 3 (pc' := 15) (ls' := [some (.ref 88), some (.int a1), none, none, none, none, none, none, none, none]) (st' := [(.int (c8 112)), (.ref 89)]) (h1 := (SH, s)) rfl ?_
    refine Rn_ev srt270 8 rfl rfl rfl (op_ia sh89 (by decide) (k := 112) rfl) ?_
    refine Rn_sq srt270 9 2 (pc' := (if (ci 2) ≤ (s.1 89 112) then 22 else 20)) (ls' := [some (.ref 88), some (.int a1), none, none, none, none, none, none, none, none]) (st' := []) (h1 := (SH, s)) rfl (Rn_if (fun h4 => ?_) (fun h4 => ?_))
    · replace hJ := m_ifp h4 hJ
      refine Rn_sq srt270 13 8 (pc' := 35) (ls' := [some (.ref 88), some (.int a1), some (.long (cl (-1))), none, some (.int (ci (-1))), some (.int (ci (-1))), some (.int (ci 0)), none, none, none]) (st' := []) (h1 := (SH, s)) rfl ?_
      exact (k_X12_pair_L35 d hJ hC)
    · replace hJ := m_ifn h4 hJ
      exact Rn_weaken (a := [none, none, none, none, none, none, none, none, none, none]) (b := [some (.ref 88), some (.int a1), none, none, none, none, none, none, none, none]) trivial rfl (k_X12_pair_20 d hJ hC)
theorem k_X12_pair {N : Nat} {xs : Nat → Int32} (d : Nat) {s : mG} {a1 : Int32} {τ : (Int32 × mG)} (hJ : F_X12_pair a1 s = some τ) : Rn N xs (d + 6) me270 0 [some (.ref 88), some (.int a1), none, none, none, none, none, none, none, none] [] (SH, s) (some (.int τ.1), (SH, τ.2)) := k_X12_pair_r d hJ rfl
/-! IsHeInModel.laysChances()V -/
theorem srt271 : m_srt mc271 = true := by decide +kernel
def C_X12_laysChances_2 (N : Nat) (xs : Nat → Int32) (d : Nat) (r : Option Value × mH) (C : (mG) → Prop) : ((Int32 × mG) ⊕ (mG)) → Prop
  | .inl v => Rn N xs (d + 6) me271 2 [some (.ref 88), some (.int v.1), none, none, none] [] (SH, v.2) r
  | .inr a => C a
def C_X12_laysChances_38 (N : Nat) (xs : Nat → Int32) (d : Nat) (r : Option Value × mH) (C : (mG) → Prop) : ((Int32 × mG) ⊕ (mG)) → Prop
  | .inl v => Rn N xs (d + 6) me271 38 [some (.ref 88), some (.int v.1), none, none, none] [] (SH, v.2) r
  | .inr a => C a
def C_X12_laysChances_64 (N : Nat) (xs : Nat → Int32) (d : Nat) (r : Option Value × mH) (C : ((Int32 × mG) ⊕ (mG)) → Prop) : ((Int32 × Int64 × Int32 × mG) ⊕ ((Int32 × mG) ⊕ (mG))) → Prop
  | .inl v => Rn N xs (d + 6) me271 64 [some (.ref 88), some (.int v.1), some (.long v.2.1), none, some (.int v.2.2.1)] [] (SH, v.2.2.2) r
  | .inr a => C a
def F_X12_laysChances_116 (x1 : Int32) (x2 : Int64) (x4 : Int32) (y1 : Int32) (y2 : Int64) (y3 : Int64) (s : mG) : Option ((Int32 × Int64 × Int32 × mG) ⊕ ((Int32 × mG) ⊕ (mG))) :=
  if y1 < 0 ∨ 13 ≤ y1.toNatClampNeg then none else
  let s10 : mG := (s.1, muL s.2 98 y1.toNatClampNeg (y2 + y3))
  some (Sum.inl (x1, x2, (x4 + ci (-1)), s10))
set_option maxRecDepth 4000 in
theorem k_X12_laysChances_116 {N : Nat} {xs : Nat → Int32} (d : Nat) {r : Option Value × mH} {s : mG} {x1 : Int32} {x2 : Int64} {x4 : Int32} {y1 : Int32} {y2 : Int64} {y3 : Int64} {τ : ((Int32 × Int64 × Int32 × mG) ⊕ ((Int32 × mG) ⊕ (mG)))} (hJ : F_X12_laysChances_116 x1 x2 x4 y1 y2 y3 s = some τ) (hC : (C_X12_laysChances_64 N xs d r (C_X12_laysChances_38 N xs d r (fun τ => r = (none, (SH, τ))))) τ) : Rn N xs (d + 6) me271 116 [some (.ref 88), some (.int x1), some (.long x2), none, some (.int x4)] [(.long y3), (.long y2), (.int y1), (.ref 98)] (SH, s) r := by
  unfold F_X12_laysChances_116 at hJ
  refine Rn_sq srt271 65 1 (pc' := 117) (ls' := [some (.ref 88), some (.int x1), some (.long x2), none, some (.int x4)]) (st' := [(.long (y2 + y3)), (.int y1), (.ref 98)]) (h1 := (SH, s)) rfl ?_
  obtain ⟨h9, hJ⟩ := m_gn hJ
  extract_lets +onlyGivenNames s10 at hJ
  refine Rn_ev srt271 66 rfl rfl rfl (op_las sh98 h9 (k := y1.toNatClampNeg) rfl) ?_
  refine Rn_sq srt271 67 2 (pc' := 64) (ls' := [some (.ref 88), some (.int x1), some (.long x2), none, some (.int (x4 + ci (-1)))]) (st' := []) (h1 := (SH, s10)) rfl ?_
  rw [← Option.some.inj hJ] at hC
  exact hC
def F_X12_laysChances_B64 (x1 : Int32) (x2 : Int64) (x4 : Int32) (s : mG) : Option ((Int32 × Int64 × Int32 × mG) ⊕ ((Int32 × mG) ⊕ (mG))) :=
  if x4 < 0 then
    some (Sum.inr (Sum.inl ((x1 + ci 1), s)))
  else
    if x4 < 0 ∨ 13 ≤ x4.toNatClampNeg then none else
    if x4 = 0 then
      F_X12_laysChances_116 x1 x2 x4 x4 (((s.2 98 x4.toNatClampNeg) * ((cl 1000000) - x2)) / (cl 1000000)) (cz 0) s
    else
      if (x4 - (ci 1)) < 0 ∨ 13 ≤ (x4 - (ci 1)).toNatClampNeg then none else
      F_X12_laysChances_116 x1 x2 x4 x4 (((s.2 98 x4.toNatClampNeg) * ((cl 1000000) - x2)) / (cl 1000000)) (((s.2 98 (x4 - (ci 1)).toNatClampNeg) * x2) / (cl 1000000)) s
set_option maxRecDepth 4000 in
theorem k_X12_laysChances_B64 {N : Nat} {xs : Nat → Int32} (d : Nat) {r : Option Value × mH} {s : mG} {x1 : Int32} {x2 : Int64} {x4 : Int32} {τ : ((Int32 × Int64 × Int32 × mG) ⊕ ((Int32 × mG) ⊕ (mG)))} (hJ : F_X12_laysChances_B64 x1 x2 x4 s = some τ) (hC : (C_X12_laysChances_64 N xs d r (C_X12_laysChances_38 N xs d r (fun τ => r = (none, (SH, τ))))) τ) : Rn N xs (d + 6) me271 64 [some (.ref 88), some (.int x1), some (.long x2), none, some (.int x4)] [] (SH, s) r := by
  unfold F_X12_laysChances_B64 at hJ
  refine Rn_sq srt271 36 2 (pc' := (if x4 < 0 then 124 else 69)) (ls' := [some (.ref 88), some (.int x1), some (.long x2), none, some (.int x4)]) (st' := []) (h1 := (SH, s)) rfl (Rn_if (fun h6 => ?_) (fun h6 => ?_))
  · replace hJ := m_ifp h6 hJ
    refine Rn_sq srt271 69 2 (pc' := 38) (ls' := [some (.ref 88), some (.int (x1 + ci 1)), some (.long x2), none, some (.int x4)]) (st' := []) (h1 := (SH, s)) rfl ?_
    rw [← Option.some.inj hJ] at hC
    exact Rn_weaken (a := [some (.ref 88), some (.int (x1 + ci 1)), none, none, none]) (b := [some (.ref 88), some (.int (x1 + ci 1)), some (.long x2), none, some (.int x4)]) (And.intro rfl (And.intro rfl trivial)) rfl hC
  · replace hJ := m_ifn h6 hJ
    refine Rn_sq srt271 38 6 (pc' := 81) (ls' := [some (.ref 88), some (.int x1), some (.long x2), none, some (.int x4)]) (st' := [(.int x4), (.ref 98), (.int x4), (.ref 98)]) (h1 := (SH, s)) rfl ?_
    obtain ⟨h7, hJ⟩ := m_gn hJ
    refine Rn_ev srt271 44 rfl rfl rfl (op_la sh98 h7 (k := x4.toNatClampNeg) rfl) ?_
    refine Rn_sq srt271 45 5 (pc' := 91) (ls' := [some (.ref 88), some (.int x1), some (.long x2), none, some (.int x4)]) (st' := [(.long (cl 1000000)), (.long ((s.2 98 x4.toNatClampNeg) * ((cl 1000000) - x2))), (.int x4), (.ref 98)]) (h1 := (SH, s)) rfl ?_
    refine Rn_ev srt271 50 rfl rfl rfl (op_ldiv (by decide)) ?_
    refine Rn_sq srt271 51 2 (pc' := (if x4 = 0 then 97 else 101)) (ls' := [some (.ref 88), some (.int x1), some (.long x2), none, some (.int x4)]) (st' := [(.long (((s.2 98 x4.toNatClampNeg) * ((cl 1000000) - x2)) / (cl 1000000))), (.int x4), (.ref 98)]) (h1 := (SH, s)) rfl (Rn_if (fun h8 => ?_) (fun h8 => ?_))
    · replace hJ := m_ifp h8 hJ
      refine Rn_sq srt271 53 2 (pc' := 116) (ls' := [some (.ref 88), some (.int x1), some (.long x2), none, some (.int x4)]) (st' := [(.long (cz 0)), (.long (((s.2 98 x4.toNatClampNeg) * ((cl 1000000) - x2)) / (cl 1000000))), (.int x4), (.ref 98)]) (h1 := (SH, s)) rfl ?_
      exact (k_X12_laysChances_116 d hJ hC)
    · replace hJ := m_ifn h8 hJ
      refine Rn_sq srt271 55 5 (pc' := 109) (ls' := [some (.ref 88), some (.int x1), some (.long x2), none, some (.int x4)]) (st' := [(.int (x4 - (ci 1))), (.ref 98), (.long (((s.2 98 x4.toNatClampNeg) * ((cl 1000000) - x2)) / (cl 1000000))), (.int x4), (.ref 98)]) (h1 := (SH, s)) rfl ?_
      obtain ⟨h11, hJ⟩ := m_gn hJ
      refine Rn_ev srt271 60 rfl rfl rfl (op_la sh98 h11 (k := (x4 - (ci 1)).toNatClampNeg) rfl) ?_
      refine Rn_sq srt271 61 3 (pc' := 115) (ls' := [some (.ref 88), some (.int x1), some (.long x2), none, some (.int x4)]) (st' := [(.long (cl 1000000)), (.long ((s.2 98 (x4 - (ci 1)).toNatClampNeg) * x2)), (.long (((s.2 98 x4.toNatClampNeg) * ((cl 1000000) - x2)) / (cl 1000000))), (.int x4), (.ref 98)]) (h1 := (SH, s)) rfl ?_
      refine Rn_ev srt271 64 rfl rfl rfl (op_ldiv (by decide)) ?_
      exact (k_X12_laysChances_116 d hJ hC)
def F_X12_laysChances_L64 (x1 : Int32) (x2 : Int64) (x4 : Int32) (s : mG) : Option ((Int32 × mG) ⊕ (mG)) := whl (fun (v : (Int32 × Int64 × Int32 × mG)) => F_X12_laysChances_B64 v.1 v.2.1 v.2.2.1 v.2.2.2) (x1, x2, x4, s)
theorem k_X12_laysChances_L64 {N : Nat} {xs : Nat → Int32} (d : Nat) {r : Option Value × mH} {s : mG} {x1 : Int32} {x2 : Int64} {x4 : Int32} {τ : ((Int32 × mG) ⊕ (mG))} (hJ : F_X12_laysChances_L64 x1 x2 x4 s = some τ) (hC : (C_X12_laysChances_38 N xs d r (fun τ => r = (none, (SH, τ)))) τ) : Rn N xs (d + 6) me271 64 [some (.ref 88), some (.int x1), some (.long x2), none, some (.int x4)] [] (SH, s) r :=
  whl_link (P := fun (v : (Int32 × Int64 × Int32 × mG)) => Rn N xs (d + 6) me271 64 [some (.ref 88), some (.int v.1), some (.long v.2.1), none, some (.int v.2.2.1)] [] (SH, v.2.2.2) r) (C := (C_X12_laysChances_64 N xs d r (C_X12_laysChances_38 N xs d r (fun τ => r = (none, (SH, τ)))))) (fun v τ h1 h2 => k_X12_laysChances_B64 d h1 h2) (fun _ h => h) (fun _ h => h) _ _ hJ hC
def F_X12_laysChances_B38 (x1 : Int32) (s : mG) : Option ((Int32 × mG) ⊕ (mG)) :=
  if (s.1 89 112) ≤ x1 then
    some (Sum.inr s)
  else
    b2 (F_X12_sureOf x1 s) fun v5 s4 =>
    F_X12_laysChances_L64 x1 v5 (s4.1 89 112) s4
set_option maxRecDepth 4000 in
theorem k_X12_laysChances_B38 {N : Nat} {xs : Nat → Int32} (d : Nat) {r : Option Value × mH} {s : mG} {x1 : Int32} {τ : ((Int32 × mG) ⊕ (mG))} (hJ : F_X12_laysChances_B38 x1 s = some τ) (hC : (C_X12_laysChances_38 N xs d r (fun τ => r = (none, (SH, τ)))) τ) : Rn N xs (d + 6) me271 38 [some (.ref 88), some (.int x1), none, none, none] [] (SH, s) r := by
  unfold F_X12_laysChances_B38 at hJ
  refine Rn_sq srt271 21 4 (pc' := 45) (ls' := [some (.ref 88), some (.int x1), none, none, none]) (st' := [(.int (c8 112)), (.ref 89), (.int x1)]) (h1 := (SH, s)) rfl ?_
  refine Rn_ev srt271 25 rfl rfl rfl (op_ia sh89 (by decide) (k := 112) rfl) ?_
  refine Rn_sq srt271 26 1 (pc' := (if (s.1 89 112) ≤ x1 then 130 else 49)) (ls' := [some (.ref 88), some (.int x1), none, none, none]) (st' := []) (h1 := (SH, s)) rfl (Rn_if (fun h2 => ?_) (fun h2 => ?_))
  · replace hJ := m_ifp h2 hJ
    rw [← Option.some.inj hJ] at hC
    have hC : r = (none, (SH, s)) := hC
    subst hC
    exact Rn_ret srt271 71 rfl rfl rfl
  · replace hJ := m_ifn h2 hJ
    refine Rn_sq srt271 27 2 (pc' := 51) (ls' := [some (.ref 88), some (.int x1), none, none, none]) (st' := [(.int x1), (.ref 88)]) (h1 := (SH, s)) rfl ?_
    obtain ⟨v5, s4, h3, hJ⟩ := m_b2 hJ
    refine Rn_call srt271 29 rfl rfl rfl ⟨Nat.le_of_ble_eq_true rfl, Nat.le_of_ble_eq_true rfl, rfl, Nat.le_of_ble_eq_true rfl⟩ (k_X12_sureOf (d) h3) (show Rn N xs (d + 6) me271 54 [some (.ref 88), some (.int x1), none, none, none] [(.long v5)] (SH, s4) r from ?_)
    refine Rn_sq srt271 30 4 (pc' := 61) (ls' := [some (.ref 88), some (.int x1), some (.long v5), none, none]) (st' := [(.int (c8 112)), (.ref 89)]) (h1 := (SH, s4)) rfl ?_
    refine Rn_ev srt271 34 rfl rfl rfl (op_ia sh89 (by decide) (k := 112) rfl) ?_
    refine Rn_sq srt271 35 1 (pc' := 64) (ls' := [some (.ref 88), some (.int x1), some (.long v5), none, some (.int (s4.1 89 112))]) (st' := []) (h1 := (SH, s4)) rfl ?_
    exact (k_X12_laysChances_L64 d hJ hC)
def F_X12_laysChances_L38 (x1 : Int32) (s : mG) : Option (mG) := whl (fun (v : (Int32 × mG)) => F_X12_laysChances_B38 v.1 v.2) (x1, s)
theorem k_X12_laysChances_L38 {N : Nat} {xs : Nat → Int32} (d : Nat) {r : Option Value × mH} {s : mG} {x1 : Int32} {τ : (mG)} (hJ : F_X12_laysChances_L38 x1 s = some τ) (hC : (fun τ => r = (none, (SH, τ))) τ) : Rn N xs (d + 6) me271 38 [some (.ref 88), some (.int x1), none, none, none] [] (SH, s) r :=
  whl_link (P := fun (v : (Int32 × mG)) => Rn N xs (d + 6) me271 38 [some (.ref 88), some (.int v.1), none, none, none] [] (SH, v.2) r) (C := (C_X12_laysChances_38 N xs d r (fun τ => r = (none, (SH, τ))))) (fun v τ h1 h2 => k_X12_laysChances_B38 d h1 h2) (fun _ h => h) (fun _ h => h) _ _ hJ hC
def F_X12_laysChances_29 (x1 : Int32) (y1 : Int32) (y2 : Int64) (s : mG) : Option ((Int32 × mG) ⊕ (mG)) :=
  if y1 < 0 ∨ 13 ≤ y1.toNatClampNeg then none else
  let s14 : mG := (s.1, muL s.2 98 y1.toNatClampNeg y2)
  some (Sum.inl ((x1 + ci 1), s14))
set_option maxRecDepth 4000 in
theorem k_X12_laysChances_29 {N : Nat} {xs : Nat → Int32} (d : Nat) {r : Option Value × mH} {s : mG} {x1 : Int32} {y1 : Int32} {y2 : Int64} {τ : ((Int32 × mG) ⊕ (mG))} (hJ : F_X12_laysChances_29 x1 y1 y2 s = some τ) (hC : (C_X12_laysChances_2 N xs d r (fun τ => r = (none, (SH, τ)))) τ) : Rn N xs (d + 6) me271 29 [some (.ref 88), some (.int x1), none, none, none] [(.long y2), (.int y1), (.ref 98)] (SH, s) r := by
  unfold F_X12_laysChances_29 at hJ
  obtain ⟨h13, hJ⟩ := m_gn hJ
  extract_lets +onlyGivenNames s14 at hJ
  refine Rn_ev srt271 16 rfl rfl rfl (op_las sh98 h13 (k := y1.toNatClampNeg) rfl) ?_
  refine Rn_sq srt271 17 2 (pc' := 2) (ls' := [some (.ref 88), some (.int (x1 + ci 1)), none, none, none]) (st' := []) (h1 := (SH, s14)) rfl ?_
  rw [← Option.some.inj hJ] at hC
  exact hC
def F_X12_laysChances_B2 (x1 : Int32) (s : mG) : Option ((Int32 × mG) ⊕ (mG)) :=
  if (s.1 89 112) < x1 then
    b1 (F_X12_laysChances_L38 (ci 0) s) fun τ => some (Sum.inr τ)
  else
    if x1 = 0 then
      F_X12_laysChances_29 x1 x1 (cl 1000000) s
    else
      F_X12_laysChances_29 x1 x1 (cz 0) s
set_option maxRecDepth 4000 in
theorem k_X12_laysChances_B2 {N : Nat} {xs : Nat → Int32} (d : Nat) {r : Option Value × mH} {s : mG} {x1 : Int32} {τ : ((Int32 × mG) ⊕ (mG))} (hJ : F_X12_laysChances_B2 x1 s = some τ) (hC : (C_X12_laysChances_2 N xs d r (fun τ => r = (none, (SH, τ)))) τ) : Rn N xs (d + 6) me271 2 [some (.ref 88), some (.int x1), none, none, none] [] (SH, s) r := by
  unfold F_X12_laysChances_B2 at hJ
  refine Rn_sq srt271 2 4 (pc' := 9) (ls' := [some (.ref 88), some (.int x1), none, none, none]) (st' := [(.int (c8 112)), (.ref 89), (.int x1)]) (h1 := (SH, s)) rfl ?_
  refine Rn_ev srt271 6 rfl rfl rfl (op_ia sh89 (by decide) (k := 112) rfl) ?_
  refine Rn_sq srt271 7 1 (pc' := (if (s.1 89 112) < x1 then 36 else 13)) (ls' := [some (.ref 88), some (.int x1), none, none, none]) (st' := []) (h1 := (SH, s)) rfl (Rn_if (fun h1 => ?_) (fun h1 => ?_))
  · replace hJ := m_ifp h1 hJ
    refine Rn_sq srt271 19 2 (pc' := 38) (ls' := [some (.ref 88), some (.int (ci 0)), none, none, none]) (st' := []) (h1 := (SH, s)) rfl ?_
    obtain ⟨τ1, hJ1, hJ⟩ := m_b1 hJ
    rw [← Option.some.inj hJ] at hC
    exact (k_X12_laysChances_L38 d hJ1 hC)
  · replace hJ := m_ifn h1 hJ
    refine Rn_sq srt271 8 5 (pc' := (if x1 = 0 then 22 else 28)) (ls' := [some (.ref 88), some (.int x1), none, none, none]) (st' := [(.int x1), (.ref 98)]) (h1 := (SH, s)) rfl (Rn_if (fun h12 => ?_) (fun h12 => ?_))
    · replace hJ := m_ifp h12 hJ
      refine Rn_sq srt271 13 2 (pc' := 29) (ls' := [some (.ref 88), some (.int x1), none, none, none]) (st' := [(.long (cl 1000000)), (.int x1), (.ref 98)]) (h1 := (SH, s)) rfl ?_
      exact (k_X12_laysChances_29 d hJ hC)
    · replace hJ := m_ifn h12 hJ
      refine Rn_sq srt271 15 1 (pc' := 29) (ls' := [some (.ref 88), some (.int x1), none, none, none]) (st' := [(.long (cz 0)), (.int x1), (.ref 98)]) (h1 := (SH, s)) rfl ?_
      exact (k_X12_laysChances_29 d hJ hC)
def F_X12_laysChances_L2 (x1 : Int32) (s : mG) : Option (mG) := whl (fun (v : (Int32 × mG)) => F_X12_laysChances_B2 v.1 v.2) (x1, s)
theorem k_X12_laysChances_L2 {N : Nat} {xs : Nat → Int32} (d : Nat) {r : Option Value × mH} {s : mG} {x1 : Int32} {τ : (mG)} (hJ : F_X12_laysChances_L2 x1 s = some τ) (hC : (fun τ => r = (none, (SH, τ))) τ) : Rn N xs (d + 6) me271 2 [some (.ref 88), some (.int x1), none, none, none] [] (SH, s) r :=
  whl_link (P := fun (v : (Int32 × mG)) => Rn N xs (d + 6) me271 2 [some (.ref 88), some (.int v.1), none, none, none] [] (SH, v.2) r) (C := (C_X12_laysChances_2 N xs d r (fun τ => r = (none, (SH, τ))))) (fun v τ h1 h2 => k_X12_laysChances_B2 d h1 h2) (fun _ h => h) (fun _ h => h) _ _ hJ hC
def F_X12_laysChances (s : mG) : Option (mG) :=
  F_X12_laysChances_L2 (ci 0) s
set_option maxRecDepth 4000 in
theorem k_X12_laysChances_r {N : Nat} {xs : Nat → Int32} (d : Nat) {r : Option Value × mH} {s : mG} {τ : (mG)} (hJ : F_X12_laysChances s = some τ) (hC : (fun τ => r = (none, (SH, τ))) τ) : Rn N xs (d + 6) me271 0 [some (.ref 88), none, none, none, none] [] (SH, s) r := by
  unfold F_X12_laysChances at hJ
  refine Rn_sq srt271 0 2 (pc' := 2) (ls' := [some (.ref 88), some (.int (ci 0)), none, none, none]) (st' := []) (h1 := (SH, s)) rfl ?_
  exact (k_X12_laysChances_L2 d hJ hC)
theorem k_X12_laysChances {N : Nat} {xs : Nat → Int32} (d : Nat) {s : mG} {τ : (mG)} (hJ : F_X12_laysChances s = some τ) : Rn N xs (d + 6) me271 0 [some (.ref 88), none, none, none, none] [] (SH, s) (none, (SH, τ)) := k_X12_laysChances_r d hJ rfl
/-! IsHeInModel.many(I)I -/
theorem srt272 : m_srt mc272 = true := by decide +kernel
def C_X12_many_16 (N : Nat) (xs : Nat → Int32) (d : Nat) (r : Option Value × mH) (C : (Int32 × mG) → Prop) : ((Int32 × Int64 × Int32 × mG) ⊕ (Int32 × mG)) → Prop
  | .inl v => Rn N xs (d + 7) me272 16 [some (.ref 88), some (.int v.1), some (.long v.2.1), none, some (.int v.2.2.1), none] [] (SH, v.2.2.2) r
  | .inr a => C a
def C_X12_many_64 (N : Nat) (xs : Nat → Int32) (d : Nat) (r : Option Value × mH) (C : (Int32 × mG) → Prop) : ((Int32 × Int32 × Int32 × mG) ⊕ (Int32 × mG)) → Prop
  | .inl v => Rn N xs (d + 7) me272 64 [some (.ref 88), some (.int v.1), none, none, some (.int v.2.1), some (.int v.2.2.1)] [] (SH, v.2.2.2) r
  | .inr a => C a
def F_X12_many_98 (x1 : Int32) (x4 : Int32) (x5 : Int32) (s : mG) : Option ((Int32 × Int32 × Int32 × mG) ⊕ (Int32 × mG)) :=
  some (Sum.inl (x1, x4, (x5 + ci 1), s))
set_option maxRecDepth 4000 in
theorem k_X12_many_98 {N : Nat} {xs : Nat → Int32} (d : Nat) {r : Option Value × mH} {s : mG} {x1 : Int32} {x4 : Int32} {x5 : Int32} {τ : ((Int32 × Int32 × Int32 × mG) ⊕ (Int32 × mG))} (hJ : F_X12_many_98 x1 x4 x5 s = some τ) (hC : (C_X12_many_64 N xs d r (fun τ => r = (some (.int τ.1), (SH, τ.2)))) τ) : Rn N xs (d + 7) me272 98 [some (.ref 88), some (.int x1), none, none, some (.int x4), some (.int x5)] [] (SH, s) r := by
  unfold F_X12_many_98 at hJ
  refine Rn_sq srt272 56 2 (pc' := 64) (ls' := [some (.ref 88), some (.int x1), none, none, some (.int x4), some (.int (x5 + ci 1))]) (st' := []) (h1 := (SH, s)) rfl ?_
  rw [← Option.some.inj hJ] at hC
  exact hC
def F_X12_many_B64 (x1 : Int32) (x4 : Int32) (x5 : Int32) (s : mG) : Option ((Int32 × Int32 × Int32 × mG) ⊕ (Int32 × mG)) :=
  if (s.1 89 112) < x5 then
    if x1 = (ci 1) then
      some (Sum.inr (x4, s))
    else
      if x4 < 0 ∨ 13 ≤ x4.toNatClampNeg then none else
      let v12 : Int32 := (s.2 98 x4.toNatClampNeg).toInt32
      some (Sum.inr (v12, s))
  else
    if x5 < 0 ∨ 13 ≤ x5.toNatClampNeg then none else
    if x4 < 0 ∨ 13 ≤ x4.toNatClampNeg then none else
    if (lg_cmp (s.2 98 x5.toNatClampNeg) (s.2 98 x4.toNatClampNeg)) ≤ 0 then
      F_X12_many_98 x1 x4 x5 s
    else
      F_X12_many_98 x1 x5 x5 s
set_option maxRecDepth 4000 in
theorem k_X12_many_B64 {N : Nat} {xs : Nat → Int32} (d : Nat) {r : Option Value × mH} {s : mG} {x1 : Int32} {x4 : Int32} {x5 : Int32} {τ : ((Int32 × Int32 × Int32 × mG) ⊕ (Int32 × mG))} (hJ : F_X12_many_B64 x1 x4 x5 s = some τ) (hC : (C_X12_many_64 N xs d r (fun τ => r = (some (.int τ.1), (SH, τ.2)))) τ) : Rn N xs (d + 7) me272 64 [some (.ref 88), some (.int x1), none, none, some (.int x4), some (.int x5)] [] (SH, s) r := by
  unfold F_X12_many_B64 at hJ
  refine Rn_sq srt272 38 4 (pc' := 72) (ls' := [some (.ref 88), some (.int x1), none, none, some (.int x4), some (.int x5)]) (st' := [(.int (c8 112)), (.ref 89), (.int x5)]) (h1 := (SH, s)) rfl ?_
  refine Rn_ev srt272 42 rfl rfl rfl (op_ia sh89 (by decide) (k := 112) rfl) ?_
  refine Rn_sq srt272 43 1 (pc' := (if (s.1 89 112) < x5 then 104 else 76)) (ls' := [some (.ref 88), some (.int x1), none, none, some (.int x4), some (.int x5)]) (st' := []) (h1 := (SH, s)) rfl (Rn_if (fun h9 => ?_) (fun h9 => ?_))
  · replace hJ := m_ifp h9 hJ
    refine Rn_sq srt272 58 3 (pc' := (if x1 = (ci 1) then 109 else 114)) (ls' := [some (.ref 88), some (.int x1), none, none, some (.int x4), some (.int x5)]) (st' := []) (h1 := (SH, s)) rfl (Rn_if (fun h10 => ?_) (fun h10 => ?_))
    · replace hJ := m_ifp h10 hJ
      refine Rn_sq srt272 61 2 (pc' := 122) (ls' := [some (.ref 88), some (.int x1), none, none, some (.int x4), some (.int x5)]) (st' := [(.int x4)]) (h1 := (SH, s)) rfl ?_
      rw [← Option.some.inj hJ] at hC
      have hC : r = (some (.int x4), (SH, s)) := hC
      subst hC
      exact Rn_ret srt272 68 rfl rfl rfl
    · replace hJ := m_ifn h10 hJ
      refine Rn_sq srt272 63 3 (pc' := 120) (ls' := [some (.ref 88), some (.int x1), none, none, some (.int x4), some (.int x5)]) (st' := [(.int x4), (.ref 98)]) (h1 := (SH, s)) rfl ?_
      obtain ⟨h11, hJ⟩ := m_gn hJ
      refine Rn_ev srt272 66 rfl rfl rfl (op_la sh98 h11 (k := x4.toNatClampNeg) rfl) ?_
      refine Rn_sq srt272 67 1 (pc' := 122) (ls' := [some (.ref 88), some (.int x1), none, none, some (.int x4), some (.int x5)]) (st' := [(.int (s.2 98 x4.toNatClampNeg).toInt32)]) (h1 := (SH, s)) rfl ?_
      extract_lets +onlyGivenNames v12 at hJ
      rw [← Option.some.inj hJ] at hC
      have hC : r = (some (.int (s.2 98 x4.toNatClampNeg).toInt32), (SH, s)) := hC
      subst hC
      exact Rn_ret srt272 68 rfl rfl rfl
  · replace hJ := m_ifn h9 hJ
    refine Rn_sq srt272 44 3 (pc' := 82) (ls' := [some (.ref 88), some (.int x1), none, none, some (.int x4), some (.int x5)]) (st' := [(.int x5), (.ref 98)]) (h1 := (SH, s)) rfl ?_
    obtain ⟨h13, hJ⟩ := m_gn hJ
    refine Rn_ev srt272 47 rfl rfl rfl (op_la sh98 h13 (k := x5.toNatClampNeg) rfl) ?_
    refine Rn_sq srt272 48 3 (pc' := 89) (ls' := [some (.ref 88), some (.int x1), none, none, some (.int x4), some (.int x5)]) (st' := [(.int x4), (.ref 98), (.long (s.2 98 x5.toNatClampNeg))]) (h1 := (SH, s)) rfl ?_
    obtain ⟨h14, hJ⟩ := m_gn hJ
    refine Rn_ev srt272 51 rfl rfl rfl (op_la sh98 h14 (k := x4.toNatClampNeg) rfl) ?_
    refine Rn_sq srt272 52 2 (pc' := (if (lg_cmp (s.2 98 x5.toNatClampNeg) (s.2 98 x4.toNatClampNeg)) ≤ 0 then 98 else 94)) (ls' := [some (.ref 88), some (.int x1), none, none, some (.int x4), some (.int x5)]) (st' := []) (h1 := (SH, s)) rfl (Rn_if (fun h15 => ?_) (fun h15 => ?_))
    · replace hJ := m_ifp h15 hJ
      exact (k_X12_many_98 d hJ hC)
    · replace hJ := m_ifn h15 hJ
      refine Rn_sq srt272 54 2 (pc' := 98) (ls' := [some (.ref 88), some (.int x1), none, none, some (.int x5), some (.int x5)]) (st' := []) (h1 := (SH, s)) rfl ?_
      exact (k_X12_many_98 d hJ hC)
def F_X12_many_L64 (x1 : Int32) (x4 : Int32) (x5 : Int32) (s : mG) : Option (Int32 × mG) := whl (fun (v : (Int32 × Int32 × Int32 × mG)) => F_X12_many_B64 v.1 v.2.1 v.2.2.1 v.2.2.2) (x1, x4, x5, s)
theorem k_X12_many_L64 {N : Nat} {xs : Nat → Int32} (d : Nat) {r : Option Value × mH} {s : mG} {x1 : Int32} {x4 : Int32} {x5 : Int32} {τ : (Int32 × mG)} (hJ : F_X12_many_L64 x1 x4 x5 s = some τ) (hC : (fun τ => r = (some (.int τ.1), (SH, τ.2))) τ) : Rn N xs (d + 7) me272 64 [some (.ref 88), some (.int x1), none, none, some (.int x4), some (.int x5)] [] (SH, s) r :=
  whl_link (P := fun (v : (Int32 × Int32 × Int32 × mG)) => Rn N xs (d + 7) me272 64 [some (.ref 88), some (.int v.1), none, none, some (.int v.2.1), some (.int v.2.2.1)] [] (SH, v.2.2.2) r) (C := (C_X12_many_64 N xs d r (fun τ => r = (some (.int τ.1), (SH, τ.2))))) (fun v τ h1 h2 => k_X12_many_B64 d h1 h2) (fun _ h => h) (fun _ h => h) _ _ hJ hC
def F_X12_many_B16 (x1 : Int32) (x2 : Int64) (x4 : Int32) (s : mG) : Option ((Int32 × Int64 × Int32 × mG) ⊕ (Int32 × mG)) :=
  if (s.1 89 112) ≤ x4 then
    if x1 = 0 then
      let v6 : Int32 := (x2 / (cl 1000000)).toInt32
      some (Sum.inr (v6, s))
    else
      b1 (F_X12_laysChances s) fun s8 =>
      b1 (F_X12_many_L64 x1 (ci 0) (ci 1) s8) fun τ => some (Sum.inr τ)
  else
    b2 (F_X12_sureOf x4 s) fun v18 s17 =>
    some (Sum.inl (x1, (x2 + v18), (x4 + ci 1), s17))
set_option maxRecDepth 4000 in
theorem k_X12_many_B16 {N : Nat} {xs : Nat → Int32} (d : Nat) {r : Option Value × mH} {s : mG} {x1 : Int32} {x2 : Int64} {x4 : Int32} {τ : ((Int32 × Int64 × Int32 × mG) ⊕ (Int32 × mG))} (hJ : F_X12_many_B16 x1 x2 x4 s = some τ) (hC : (C_X12_many_16 N xs d r (fun τ => r = (some (.int τ.1), (SH, τ.2)))) τ) : Rn N xs (d + 7) me272 16 [some (.ref 88), some (.int x1), some (.long x2), none, some (.int x4), none] [] (SH, s) r := by
  unfold F_X12_many_B16 at hJ
  refine Rn_sq srt272 11 4 (pc' := 24) (ls' := [some (.ref 88), some (.int x1), some (.long x2), none, some (.int x4), none]) (st' := [(.int (c8 112)), (.ref 89), (.int x4)]) (h1 := (SH, s)) rfl ?_
  refine Rn_ev srt272 15 rfl rfl rfl (op_ia sh89 (by decide) (k := 112) rfl) ?_
  refine Rn_sq srt272 16 1 (pc' := (if (s.1 89 112) ≤ x4 then 43 else 28)) (ls' := [some (.ref 88), some (.int x1), some (.long x2), none, some (.int x4), none]) (st' := []) (h1 := (SH, s)) rfl (Rn_if (fun h4 => ?_) (fun h4 => ?_))
  · replace hJ := m_ifp h4 hJ
    refine Rn_sq srt272 25 2 (pc' := (if x1 = 0 then 47 else 54)) (ls' := [some (.ref 88), some (.int x1), some (.long x2), none, some (.int x4), none]) (st' := []) (h1 := (SH, s)) rfl (Rn_if (fun h5 => ?_) (fun h5 => ?_))
    · replace hJ := m_ifp h5 hJ
      refine Rn_sq srt272 27 2 (pc' := 51) (ls' := [some (.ref 88), some (.int x1), some (.long x2), none, some (.int x4), none]) (st' := [(.long (cl 1000000)), (.long x2)]) (h1 := (SH, s)) rfl ?_
      refine Rn_ev srt272 29 rfl rfl rfl (op_ldiv (by decide)) ?_
      refine Rn_sq srt272 30 1 (pc' := 53) (ls' := [some (.ref 88), some (.int x1), some (.long x2), none, some (.int x4), none]) (st' := [(.int (x2 / (cl 1000000)).toInt32)]) (h1 := (SH, s)) rfl ?_
      extract_lets +onlyGivenNames v6 at hJ
      rw [← Option.some.inj hJ] at hC
      have hC : r = (some (.int (x2 / (cl 1000000)).toInt32), (SH, s)) := hC
      subst hC
      exact Rn_ret srt272 31 rfl rfl rfl
    · replace hJ := m_ifn h5 hJ
      refine Rn_sq srt272 32 1 (pc' := 55) (ls' := [some (.ref 88), some (.int x1), some (.long x2), none, some (.int x4), none]) (st' := [(.ref 88)]) (h1 := (SH, s)) rfl ?_
      obtain ⟨s8, h7, hJ⟩ := m_b1 hJ
      refine Rn_call srt272 33 rfl rfl rfl ⟨Nat.le_of_ble_eq_true rfl, Nat.le_of_ble_eq_true rfl, rfl, Nat.le_of_ble_eq_true rfl⟩ (k_X12_laysChances (d) h7) (show Rn N xs (d + 7) me272 58 [some (.ref 88), some (.int x1), some (.long x2), none, some (.int x4), none] [] (SH, s8) r from ?_)
      refine Rn_sq srt272 34 4 (pc' := 64) (ls' := [some (.ref 88), some (.int x1), some (.long x2), none, some (.int (ci 0)), some (.int (ci 1))]) (st' := []) (h1 := (SH, s8)) rfl ?_
      obtain ⟨τ1, hJ1, hJ⟩ := m_b1 hJ
      rw [← Option.some.inj hJ] at hC
      exact Rn_weaken (a := [some (.ref 88), some (.int x1), none, none, some (.int (ci 0)), some (.int (ci 1))]) (b := [some (.ref 88), some (.int x1), some (.long x2), none, some (.int (ci 0)), some (.int (ci 1))]) (And.intro rfl (And.intro rfl (And.intro rfl (And.intro rfl trivial)))) rfl (k_X12_many_L64 d hJ1 hC)
  · replace hJ := m_ifn h4 hJ
    refine Rn_sq srt272 17 3 (pc' := 32) (ls' := [some (.ref 88), some (.int x1), some (.long x2), none, some (.int x4), none]) (st' := [(.int x4), (.ref 88), (.long x2)]) (h1 := (SH, s)) rfl ?_
    obtain ⟨v18, s17, h16, hJ⟩ := m_b2 hJ
    refine Rn_call srt272 20 rfl rfl rfl ⟨Nat.le_of_ble_eq_true rfl, Nat.le_of_ble_eq_true rfl, rfl, Nat.le_of_ble_eq_true rfl⟩ (k_X12_sureOf (d + 1) h16) (show Rn N xs (d + 7) me272 35 [some (.ref 88), some (.int x1), some (.long x2), none, some (.int x4), none] [(.long v18), (.long x2)] (SH, s17) r from ?_)
    refine Rn_sq srt272 21 4 (pc' := 16) (ls' := [some (.ref 88), some (.int x1), some (.long (x2 + v18)), none, some (.int (x4 + ci 1)), none]) (st' := []) (h1 := (SH, s17)) rfl ?_
    rw [← Option.some.inj hJ] at hC
    exact hC
def F_X12_many_L16 (x1 : Int32) (x2 : Int64) (x4 : Int32) (s : mG) : Option (Int32 × mG) := whl (fun (v : (Int32 × Int64 × Int32 × mG)) => F_X12_many_B16 v.1 v.2.1 v.2.2.1 v.2.2.2) (x1, x2, x4, s)
theorem k_X12_many_L16 {N : Nat} {xs : Nat → Int32} (d : Nat) {r : Option Value × mH} {s : mG} {x1 : Int32} {x2 : Int64} {x4 : Int32} {τ : (Int32 × mG)} (hJ : F_X12_many_L16 x1 x2 x4 s = some τ) (hC : (fun τ => r = (some (.int τ.1), (SH, τ.2))) τ) : Rn N xs (d + 7) me272 16 [some (.ref 88), some (.int x1), some (.long x2), none, some (.int x4), none] [] (SH, s) r :=
  whl_link (P := fun (v : (Int32 × Int64 × Int32 × mG)) => Rn N xs (d + 7) me272 16 [some (.ref 88), some (.int v.1), some (.long v.2.1), none, some (.int v.2.2.1), none] [] (SH, v.2.2.2) r) (C := (C_X12_many_16 N xs d r (fun τ => r = (some (.int τ.1), (SH, τ.2))))) (fun v τ h1 h2 => k_X12_many_B16 d h1 h2) (fun _ h => h) (fun _ h => h) _ _ hJ hC
def F_X12_many (a1 : Int32) (s : mG) : Option (Int32 × mG) :=
  b1 (F_X12_isIn s a1 (ci 0) (ci 2)) fun v2 =>
  if v2 = 0 then
    some ((ci (-1)), s)
  else
    F_X12_many_L16 a1 (cz 0) (ci 0) s
set_option maxRecDepth 4000 in
theorem k_X12_many_r {N : Nat} {xs : Nat → Int32} (d : Nat) {r : Option Value × mH} {s : mG} {a1 : Int32} {τ : (Int32 × mG)} (hJ : F_X12_many a1 s = some τ) (hC : (fun τ => r = (some (.int τ.1), (SH, τ.2))) τ) : Rn N xs (d + 7) me272 0 [some (.ref 88), some (.int a1), none, none, none, none] [] (SH, s) r := by
  unfold F_X12_many at hJ
  refine Rn_sq srt272 0 3 (pc' := 3) (ls' := [some (.ref 88), some (.int a1), none, none, none, none]) (st' := [(.int (ci 2)), (.int (ci 0)), (.int a1)]) (h1 := (SH, s)) rfl ?_
  obtain ⟨v2, h1, hJ⟩ := m_b1 hJ
  refine Rn_call srt272 3 rfl rfl rfl ⟨Nat.le_of_ble_eq_true rfl, Nat.le_of_ble_eq_true rfl, rfl, Nat.le_of_ble_eq_true rfl⟩ (k_X12_isIn (d + 6) h1) (show Rn N xs (d + 7) me272 6 [some (.ref 88), some (.int a1), none, none, none, none] [(.int v2)] (SH, s) r from ?_)
  refine Rn_sq srt272 4 1 (pc' := (if v2 = 0 then 9 else 11)) (ls' := [some (.ref 88), some (.int a1), none, none, none, none]) (st' := []) (h1 := (SH, s)) rfl (Rn_if (fun h3 => ?_) (fun h3 => ?_))
  · replace hJ := m_ifp h3 hJ
    refine Rn_sq srt272 5 1 (pc' := 10) (ls' := [some (.ref 88), some (.int a1), none, none, none, none]) (st' := [(.int (ci (-1)))]) (h1 := (SH, s)) rfl ?_
    rw [← Option.some.inj hJ] at hC
    have hC : r = (some (.int (ci (-1))), (SH, s)) := hC
    subst hC
    exact Rn_ret srt272 6 rfl rfl rfl
  · replace hJ := m_ifn h3 hJ
    refine Rn_sq srt272 7 4 (pc' := 16) (ls' := [some (.ref 88), some (.int a1), some (.long (cz 0)), none, some (.int (ci 0)), none]) (st' := []) (h1 := (SH, s)) rfl ?_
    exact (k_X12_many_L16 d hJ hC)
theorem k_X12_many {N : Nat} {xs : Nat → Int32} (d : Nat) {s : mG} {a1 : Int32} {τ : (Int32 × mG)} (hJ : F_X12_many a1 s = some τ) : Rn N xs (d + 7) me272 0 [some (.ref 88), some (.int a1), none, none, none, none] [] (SH, s) (some (.int τ.1), (SH, τ.2)) := k_X12_many_r d hJ rfl
/-! IsHeInModel.tagCostOf(III)I -/
theorem srt273 : m_srt mc273 = true := by decide +kernel
def C_X12_tagCostOf_6 (N : Nat) (xs : Nat → Int32) (d : Nat) (r : Option Value × mH) (C : (Int32 × mG) → Prop) : ((Int32 × Int32 × Int32 × Int32 × Int32 × mG) ⊕ (Int32 × mG)) → Prop
  | .inl v => Rn N xs (d + 4) me273 6 [some (.ref 88), some (.int v.1), some (.int v.2.1), some (.int v.2.2.1), some (.int v.2.2.2.1), some (.int v.2.2.2.2.1)] [] (SH, v.2.2.2.2.2) r
  | .inr a => C a
def F_X12_tagCostOf_B6 (x1 : Int32) (x2 : Int32) (x3 : Int32) (x4 : Int32) (x5 : Int32) (s : mG) : Option ((Int32 × Int32 × Int32 × Int32 × Int32 × mG) ⊕ (Int32 × mG)) :=
  if (s.1 89 112) ≤ x5 then
    let v2 : Int32 := (((x4 * x2) / (c16 1000)) + (x1 * x3))
    some (Sum.inr (v2, s))
  else
    if ((c8 27) + x5) < 0 ∨ 1894 ≤ ((c8 27) + x5).toNatClampNeg then none else
    b2 (F_X12_saysIn (c8 22) x5 (s.1 89 0) x1 (s.1 89 ((c8 27) + x5).toNatClampNeg) s) fun v6 s5 =>
    some (Sum.inl (x1, x2, x3, (x4 + v6), (x5 + ci 1), s5))
set_option maxRecDepth 4000 in
theorem k_X12_tagCostOf_B6 {N : Nat} {xs : Nat → Int32} (d : Nat) {r : Option Value × mH} {s : mG} {x1 : Int32} {x2 : Int32} {x3 : Int32} {x4 : Int32} {x5 : Int32} {τ : ((Int32 × Int32 × Int32 × Int32 × Int32 × mG) ⊕ (Int32 × mG))} (hJ : F_X12_tagCostOf_B6 x1 x2 x3 x4 x5 s = some τ) (hC : (C_X12_tagCostOf_6 N xs d r (fun τ => r = (some (.int τ.1), (SH, τ.2)))) τ) : Rn N xs (d + 4) me273 6 [some (.ref 88), some (.int x1), some (.int x2), some (.int x3), some (.int x4), some (.int x5)] [] (SH, s) r := by
  unfold F_X12_tagCostOf_B6 at hJ
  refine Rn_sq srt273 4 4 (pc' := 14) (ls' := [some (.ref 88), some (.int x1), some (.int x2), some (.int x3), some (.int x4), some (.int x5)]) (st' := [(.int (c8 112)), (.ref 89), (.int x5)]) (h1 := (SH, s)) rfl ?_
  refine Rn_ev srt273 8 rfl rfl rfl (op_ia sh89 (by decide) (k := 112) rfl) ?_
  refine Rn_sq srt273 9 1 (pc' := (if (s.1 89 112) ≤ x5 then 54 else 18)) (ls' := [some (.ref 88), some (.int x1), some (.int x2), some (.int x3), some (.int x4), some (.int x5)]) (st' := []) (h1 := (SH, s)) rfl (Rn_if (fun h1 => ?_) (fun h1 => ?_))
  · replace hJ := m_ifp h1 hJ
    refine Rn_sq srt273 30 4 (pc' := 61) (ls' := [some (.ref 88), some (.int x1), some (.int x2), some (.int x3), some (.int x4), some (.int x5)]) (st' := [(.int (c16 1000)), (.int (x4 * x2))]) (h1 := (SH, s)) rfl ?_
    refine Rn_ev srt273 34 rfl rfl rfl (op_idiv (by decide)) ?_
    refine Rn_sq srt273 35 4 (pc' := 66) (ls' := [some (.ref 88), some (.int x1), some (.int x2), some (.int x3), some (.int x4), some (.int x5)]) (st' := [(.int (((x4 * x2) / (c16 1000)) + (x1 * x3)))]) (h1 := (SH, s)) rfl ?_
    extract_lets +onlyGivenNames v2 at hJ
    rw [← Option.some.inj hJ] at hC
    have hC : r = (some (.int (((x4 * x2) / (c16 1000)) + (x1 * x3))), (SH, s)) := hC
    subst hC
    exact Rn_ret srt273 39 rfl rfl rfl
  · replace hJ := m_ifn h1 hJ
    refine Rn_sq srt273 10 7 (pc' := 30) (ls' := [some (.ref 88), some (.int x1), some (.int x2), some (.int x3), some (.int x4), some (.int x5)]) (st' := [(.int (ci 0)), (.ref 89), (.int x5), (.int (c8 22)), (.ref 88), (.int x4)]) (h1 := (SH, s)) rfl ?_
    refine Rn_ev srt273 17 rfl rfl rfl (op_ia sh89 (by decide) (k := 0) rfl) ?_
    refine Rn_sq srt273 18 6 (pc' := 41) (ls' := [some (.ref 88), some (.int x1), some (.int x2), some (.int x3), some (.int x4), some (.int x5)]) (st' := [(.int ((c8 27) + x5)), (.ref 89), (.int x1), (.int (s.1 89 0)), (.int x5), (.int (c8 22)), (.ref 88), (.int x4)]) (h1 := (SH, s)) rfl ?_
    obtain ⟨h3, hJ⟩ := m_gn hJ
    refine Rn_ev srt273 24 rfl rfl rfl (op_ia sh89 h3 (k := ((c8 27) + x5).toNatClampNeg) rfl) ?_
    obtain ⟨v6, s5, h4, hJ⟩ := m_b2 hJ
    refine Rn_call srt273 25 rfl rfl rfl ⟨Nat.le_of_ble_eq_true rfl, Nat.le_of_ble_eq_true rfl, rfl, Nat.le_of_ble_eq_true rfl⟩ (k_X12_saysIn (d) h4) (show Rn N xs (d + 4) me273 45 [some (.ref 88), some (.int x1), some (.int x2), some (.int x3), some (.int x4), some (.int x5)] [(.int v6), (.int x4)] (SH, s5) r from ?_)
    refine Rn_sq srt273 26 4 (pc' := 6) (ls' := [some (.ref 88), some (.int x1), some (.int x2), some (.int x3), some (.int (x4 + v6)), some (.int (x5 + ci 1))]) (st' := []) (h1 := (SH, s5)) rfl ?_
    rw [← Option.some.inj hJ] at hC
    exact hC
def F_X12_tagCostOf_L6 (x1 : Int32) (x2 : Int32) (x3 : Int32) (x4 : Int32) (x5 : Int32) (s : mG) : Option (Int32 × mG) := whl (fun (v : (Int32 × Int32 × Int32 × Int32 × Int32 × mG)) => F_X12_tagCostOf_B6 v.1 v.2.1 v.2.2.1 v.2.2.2.1 v.2.2.2.2.1 v.2.2.2.2.2) (x1, x2, x3, x4, x5, s)
theorem k_X12_tagCostOf_L6 {N : Nat} {xs : Nat → Int32} (d : Nat) {r : Option Value × mH} {s : mG} {x1 : Int32} {x2 : Int32} {x3 : Int32} {x4 : Int32} {x5 : Int32} {τ : (Int32 × mG)} (hJ : F_X12_tagCostOf_L6 x1 x2 x3 x4 x5 s = some τ) (hC : (fun τ => r = (some (.int τ.1), (SH, τ.2))) τ) : Rn N xs (d + 4) me273 6 [some (.ref 88), some (.int x1), some (.int x2), some (.int x3), some (.int x4), some (.int x5)] [] (SH, s) r :=
  whl_link (P := fun (v : (Int32 × Int32 × Int32 × Int32 × Int32 × mG)) => Rn N xs (d + 4) me273 6 [some (.ref 88), some (.int v.1), some (.int v.2.1), some (.int v.2.2.1), some (.int v.2.2.2.1), some (.int v.2.2.2.2.1)] [] (SH, v.2.2.2.2.2) r) (C := (C_X12_tagCostOf_6 N xs d r (fun τ => r = (some (.int τ.1), (SH, τ.2))))) (fun v τ h1 h2 => k_X12_tagCostOf_B6 d h1 h2) (fun _ h => h) (fun _ h => h) _ _ hJ hC
def F_X12_tagCostOf (a1 : Int32) (a2 : Int32) (a3 : Int32) (s : mG) : Option (Int32 × mG) :=
  F_X12_tagCostOf_L6 a1 a2 a3 (ci 0) (ci 0) s
set_option maxRecDepth 4000 in
theorem k_X12_tagCostOf_r {N : Nat} {xs : Nat → Int32} (d : Nat) {r : Option Value × mH} {s : mG} {a1 : Int32} {a2 : Int32} {a3 : Int32} {τ : (Int32 × mG)} (hJ : F_X12_tagCostOf a1 a2 a3 s = some τ) (hC : (fun τ => r = (some (.int τ.1), (SH, τ.2))) τ) : Rn N xs (d + 4) me273 0 [some (.ref 88), some (.int a1), some (.int a2), some (.int a3), none, none] [] (SH, s) r := by
  unfold F_X12_tagCostOf at hJ
  refine Rn_sq srt273 0 4 (pc' := 6) (ls' := [some (.ref 88), some (.int a1), some (.int a2), some (.int a3), some (.int (ci 0)), some (.int (ci 0))]) (st' := []) (h1 := (SH, s)) rfl ?_
  exact (k_X12_tagCostOf_L6 d hJ hC)
theorem k_X12_tagCostOf {N : Nat} {xs : Nat → Int32} (d : Nat) {s : mG} {a1 : Int32} {a2 : Int32} {a3 : Int32} {τ : (Int32 × mG)} (hJ : F_X12_tagCostOf a1 a2 a3 s = some τ) : Rn N xs (d + 4) me273 0 [some (.ref 88), some (.int a1), some (.int a2), some (.int a3), none, none] [] (SH, s) (some (.int τ.1), (SH, τ.2)) := k_X12_tagCostOf_r d hJ rfl
/-! IsHeInModel.tag(II)I -/
theorem srt274 : m_srt mc274 = true := by decide +kernel
def F_X12_tag_22 (s : mG) : Option (Int32 × mG) :=
  some ((ci (-1)), s)
set_option maxRecDepth 4000 in
theorem k_X12_tag_22 {N : Nat} {xs : Nat → Int32} (d : Nat) {r : Option Value × mH} {s : mG} {τ : (Int32 × mG)} (hJ : F_X12_tag_22 s = some τ) (hC : (fun τ => r = (some (.int τ.1), (SH, τ.2))) τ) : Rn N xs (d + 5) me274 22 [none, none, none, none, none] [] (SH, s) r := by
  unfold F_X12_tag_22 at hJ
  refine Rn_sq srt274 10 1 (pc' := 23) (ls' := [none, none, none, none, none]) (st' := [(.int (ci (-1)))]) (h1 := (SH, s)) rfl ?_
  rw [← Option.some.inj hJ] at hC
  have hC : r = (some (.int (ci (-1))), (SH, s)) := hC
  subst hC
  exact Rn_ret srt274 11 rfl rfl rfl
def C_X12_tag_29 (N : Nat) (xs : Nat → Int32) (d : Nat) (r : Option Value × mH) (C : (Int32 × mG) → Prop) : ((Int32 × Int32 × Int32 × Int32 × mG) ⊕ (Int32 × mG)) → Prop
  | .inl v => Rn N xs (d + 5) me274 29 [some (.ref 88), some (.int v.1), some (.int v.2.1), some (.int v.2.2.1), some (.int v.2.2.2.1)] [] (SH, v.2.2.2.2) r
  | .inr a => C a
def F_X12_tag_57 (x1 : Int32) (x2 : Int32) (x3 : Int32) (x4 : Int32) (s : mG) : Option ((Int32 × Int32 × Int32 × Int32 × mG) ⊕ (Int32 × mG)) :=
  some (Sum.inl (x1, x2, x3, (x4 + ci 1), s))
set_option maxRecDepth 4000 in
theorem k_X12_tag_57 {N : Nat} {xs : Nat → Int32} (d : Nat) {r : Option Value × mH} {s : mG} {x1 : Int32} {x2 : Int32} {x3 : Int32} {x4 : Int32} {τ : ((Int32 × Int32 × Int32 × Int32 × mG) ⊕ (Int32 × mG))} (hJ : F_X12_tag_57 x1 x2 x3 x4 s = some τ) (hC : (C_X12_tag_29 N xs d r (fun τ => r = (some (.int τ.1), (SH, τ.2)))) τ) : Rn N xs (d + 5) me274 57 [some (.ref 88), some (.int x1), some (.int x2), some (.int x3), some (.int x4)] [] (SH, s) r := by
  unfold F_X12_tag_57 at hJ
  refine Rn_sq srt274 32 2 (pc' := 29) (ls' := [some (.ref 88), some (.int x1), some (.int x2), some (.int x3), some (.int (x4 + ci 1))]) (st' := []) (h1 := (SH, s)) rfl ?_
  rw [← Option.some.inj hJ] at hC
  exact hC
def F_X12_tag_B29 (x1 : Int32) (x2 : Int32) (x3 : Int32) (x4 : Int32) (s : mG) : Option ((Int32 × Int32 × Int32 × Int32 × mG) ⊕ (Int32 × mG)) :=
  if (c8 20) < x4 then
    some (Sum.inr (x3, s))
  else
    b2 (F_X12_tagCostOf x4 x1 x2 s) fun v10 s9 =>
    b2 (F_X12_tagCostOf x3 x1 x2 s9) fun v13 s12 =>
    if v13 ≤ v10 then
      F_X12_tag_57 x1 x2 x3 x4 s12
    else
      F_X12_tag_57 x1 x2 x4 x4 s12
set_option maxRecDepth 4000 in
theorem k_X12_tag_B29 {N : Nat} {xs : Nat → Int32} (d : Nat) {r : Option Value × mH} {s : mG} {x1 : Int32} {x2 : Int32} {x3 : Int32} {x4 : Int32} {τ : ((Int32 × Int32 × Int32 × Int32 × mG) ⊕ (Int32 × mG))} (hJ : F_X12_tag_B29 x1 x2 x3 x4 s = some τ) (hC : (C_X12_tag_29 N xs d r (fun τ => r = (some (.int τ.1), (SH, τ.2)))) τ) : Rn N xs (d + 5) me274 29 [some (.ref 88), some (.int x1), some (.int x2), some (.int x3), some (.int x4)] [] (SH, s) r := by
  unfold F_X12_tag_B29 at hJ
  refine Rn_sq srt274 16 3 (pc' := (if (c8 20) < x4 then 63 else 36)) (ls' := [some (.ref 88), some (.int x1), some (.int x2), some (.int x3), some (.int x4)]) (st' := []) (h1 := (SH, s)) rfl (Rn_if (fun h7 => ?_) (fun h7 => ?_))
  · replace hJ := m_ifp h7 hJ
    refine Rn_sq srt274 34 1 (pc' := 64) (ls' := [some (.ref 88), some (.int x1), some (.int x2), some (.int x3), some (.int x4)]) (st' := [(.int x3)]) (h1 := (SH, s)) rfl ?_
    rw [← Option.some.inj hJ] at hC
    have hC : r = (some (.int x3), (SH, s)) := hC
    subst hC
    exact Rn_ret srt274 35 rfl rfl rfl
  · replace hJ := m_ifn h7 hJ
    refine Rn_sq srt274 19 4 (pc' := 41) (ls' := [some (.ref 88), some (.int x1), some (.int x2), some (.int x3), some (.int x4)]) (st' := [(.int x2), (.int x1), (.int x4), (.ref 88)]) (h1 := (SH, s)) rfl ?_
    obtain ⟨v10, s9, h8, hJ⟩ := m_b2 hJ
    refine Rn_call srt274 23 rfl rfl rfl ⟨Nat.le_of_ble_eq_true rfl, Nat.le_of_ble_eq_true rfl, rfl, Nat.le_of_ble_eq_true rfl⟩ (k_X12_tagCostOf (d) h8) (show Rn N xs (d + 5) me274 44 [some (.ref 88), some (.int x1), some (.int x2), some (.int x3), some (.int x4)] [(.int v10)] (SH, s9) r from ?_)
    refine Rn_sq srt274 24 4 (pc' := 48) (ls' := [some (.ref 88), some (.int x1), some (.int x2), some (.int x3), some (.int x4)]) (st' := [(.int x2), (.int x1), (.int x3), (.ref 88), (.int v10)]) (h1 := (SH, s9)) rfl ?_
    obtain ⟨v13, s12, h11, hJ⟩ := m_b2 hJ
    refine Rn_call srt274 28 rfl rfl rfl ⟨Nat.le_of_ble_eq_true rfl, Nat.le_of_ble_eq_true rfl, rfl, Nat.le_of_ble_eq_true rfl⟩ (k_X12_tagCostOf (d) h11) (show Rn N xs (d + 5) me274 51 [some (.ref 88), some (.int x1), some (.int x2), some (.int x3), some (.int x4)] [(.int v13), (.int v10)] (SH, s12) r from ?_)
    refine Rn_sq srt274 29 1 (pc' := (if v13 ≤ v10 then 57 else 54)) (ls' := [some (.ref 88), some (.int x1), some (.int x2), some (.int x3), some (.int x4)]) (st' := []) (h1 := (SH, s12)) rfl (Rn_if (fun h14 => ?_) (fun h14 => ?_))
    · replace hJ := m_ifp h14 hJ
      exact (k_X12_tag_57 d hJ hC)
    · replace hJ := m_ifn h14 hJ
      refine Rn_sq srt274 30 2 (pc' := 57) (ls' := [some (.ref 88), some (.int x1), some (.int x2), some (.int x4), some (.int x4)]) (st' := []) (h1 := (SH, s12)) rfl ?_
      exact (k_X12_tag_57 d hJ hC)
def F_X12_tag_L29 (x1 : Int32) (x2 : Int32) (x3 : Int32) (x4 : Int32) (s : mG) : Option (Int32 × mG) := whl (fun (v : (Int32 × Int32 × Int32 × Int32 × mG)) => F_X12_tag_B29 v.1 v.2.1 v.2.2.1 v.2.2.2.1 v.2.2.2.2) (x1, x2, x3, x4, s)
theorem k_X12_tag_L29 {N : Nat} {xs : Nat → Int32} (d : Nat) {r : Option Value × mH} {s : mG} {x1 : Int32} {x2 : Int32} {x3 : Int32} {x4 : Int32} {τ : (Int32 × mG)} (hJ : F_X12_tag_L29 x1 x2 x3 x4 s = some τ) (hC : (fun τ => r = (some (.int τ.1), (SH, τ.2))) τ) : Rn N xs (d + 5) me274 29 [some (.ref 88), some (.int x1), some (.int x2), some (.int x3), some (.int x4)] [] (SH, s) r :=
  whl_link (P := fun (v : (Int32 × Int32 × Int32 × Int32 × mG)) => Rn N xs (d + 5) me274 29 [some (.ref 88), some (.int v.1), some (.int v.2.1), some (.int v.2.2.1), some (.int v.2.2.2.1)] [] (SH, v.2.2.2.2) r) (C := (C_X12_tag_29 N xs d r (fun τ => r = (some (.int τ.1), (SH, τ.2))))) (fun v τ h1 h2 => k_X12_tag_B29 d h1 h2) (fun _ h => h) (fun _ h => h) _ _ hJ hC
def F_X12_tag (a1 : Int32) (a2 : Int32) (s : mG) : Option (Int32 × mG) :=
  b1 (F_X12_isIn s a1 (ci 0) (c16 999)) fun v2 =>
  if v2 = 0 then
    F_X12_tag_22 s
  else
    b1 (F_X12_isIn s a2 (ci 0) (c16 999)) fun v5 =>
    if v5 = 0 then
      F_X12_tag_22 s
    else
      F_X12_tag_L29 a1 a2 (ci 0) (ci 1) s
set_option maxRecDepth 4000 in
theorem k_X12_tag_r {N : Nat} {xs : Nat → Int32} (d : Nat) {r : Option Value × mH} {s : mG} {a1 : Int32} {a2 : Int32} {τ : (Int32 × mG)} (hJ : F_X12_tag a1 a2 s = some τ) (hC : (fun τ => r = (some (.int τ.1), (SH, τ.2))) τ) : Rn N xs (d + 5) me274 0 [some (.ref 88), some (.int a1), some (.int a2), none, none] [] (SH, s) r := by
  unfold F_X12_tag at hJ
  refine Rn_sq srt274 0 3 (pc' := 5) (ls' := [some (.ref 88), some (.int a1), some (.int a2), none, none]) (st' := [(.int (c16 999)), (.int (ci 0)), (.int a1)]) (h1 := (SH, s)) rfl ?_
  obtain ⟨v2, h1, hJ⟩ := m_b1 hJ
  refine Rn_call srt274 3 rfl rfl rfl ⟨Nat.le_of_ble_eq_true rfl, Nat.le_of_ble_eq_true rfl, rfl, Nat.le_of_ble_eq_true rfl⟩ (k_X12_isIn (d + 4) h1) (show Rn N xs (d + 5) me274 8 [some (.ref 88), some (.int a1), some (.int a2), none, none] [(.int v2)] (SH, s) r from ?_)
  refine Rn_sq srt274 4 1 (pc' := (if v2 = 0 then 22 else 11)) (ls' := [some (.ref 88), some (.int a1), some (.int a2), none, none]) (st' := []) (h1 := (SH, s)) rfl (Rn_if (fun h3 => ?_) (fun h3 => ?_))
  · replace hJ := m_ifp h3 hJ
    exact Rn_weaken (a := [none, none, none, none, none]) (b := [some (.ref 88), some (.int a1), some (.int a2), none, none]) trivial rfl (k_X12_tag_22 d hJ hC)
  · replace hJ := m_ifn h3 hJ
    refine Rn_sq srt274 5 3 (pc' := 16) (ls' := [some (.ref 88), some (.int a1), some (.int a2), none, none]) (st' := [(.int (c16 999)), (.int (ci 0)), (.int a2)]) (h1 := (SH, s)) rfl ?_
    obtain ⟨v5, h4, hJ⟩ := m_b1 hJ
    refine Rn_call srt274 8 rfl rfl rfl ⟨Nat.le_of_ble_eq_true rfl, Nat.le_of_ble_eq_true rfl, rfl, Nat.le_of_ble_eq_true rfl⟩ (k_X12_isIn (d + 4) h4) (show Rn N xs (d + 5) me274 19 [some (.ref 88), some (.int a1), some (.int a2), none, none] [(.int v5)] (SH, s) r from ?_)
    refine Rn_sq srt274 9 1 (pc' := (if v5 = 0 then 22 else 24)) (ls' := [some (.ref 88), some (.int a1), some (.int a2), none, none]) (st' := []) (h1 := (SH, s)) rfl (Rn_if (fun h6 => ?_) (fun h6 => ?_))
    · replace hJ := m_ifp h6 hJ
      exact Rn_weaken (a := [none, none, none, none, none]) (b := [some (.ref 88), some (.int a1), some (.int a2), none, none]) trivial rfl (k_X12_tag_22 d hJ hC)
    · replace hJ := m_ifn h6 hJ
      refine Rn_sq srt274 12 4 (pc' := 29) (ls' := [some (.ref 88), some (.int a1), some (.int a2), some (.int (ci 0)), some (.int (ci 1))]) (st' := []) (h1 := (SH, s)) rfl ?_
      exact (k_X12_tag_L29 d hJ hC)
theorem k_X12_tag {N : Nat} {xs : Nat → Int32} (d : Nat) {s : mG} {a1 : Int32} {a2 : Int32} {τ : (Int32 × mG)} (hJ : F_X12_tag a1 a2 s = some τ) : Rn N xs (d + 5) me274 0 [some (.ref 88), some (.int a1), some (.int a2), none, none] [] (SH, s) (some (.int τ.1), (SH, τ.2)) := k_X12_tag_r d hJ rfl
/-! IsHeInModel.tagCost(III)I -/
theorem srt275 : m_srt mc275 = true := by decide +kernel
def F_X12_tagCost_42 (s : mG) : Option (Int32 × mG) :=
  some ((ci (-1)), s)
set_option maxRecDepth 4000 in
theorem k_X12_tagCost_42 {N : Nat} {xs : Nat → Int32} (d : Nat) {r : Option Value × mH} {s : mG} {τ : (Int32 × mG)} (hJ : F_X12_tagCost_42 s = some τ) (hC : (fun τ => r = (some (.int τ.1), (SH, τ.2))) τ) : Rn N xs (d + 5) me275 42 [none, none, none, none] [] (SH, s) r := by
  unfold F_X12_tagCost_42 at hJ
  refine Rn_sq srt275 21 1 (pc' := 43) (ls' := [none, none, none, none]) (st' := [(.int (ci (-1)))]) (h1 := (SH, s)) rfl ?_
  rw [← Option.some.inj hJ] at hC
  have hC : r = (some (.int (ci (-1))), (SH, s)) := hC
  subst hC
  exact Rn_ret srt275 22 rfl rfl rfl
def F_X12_tagCost (a1 : Int32) (a2 : Int32) (a3 : Int32) (s : mG) : Option (Int32 × mG) :=
  b1 (F_X12_isIn s a1 (ci 0) (c16 999)) fun v2 =>
  if v2 = 0 then
    F_X12_tagCost_42 s
  else
    b1 (F_X12_isIn s a2 (ci 0) (c16 999)) fun v5 =>
    if v5 = 0 then
      F_X12_tagCost_42 s
    else
      b1 (F_X12_isIn s a3 (ci 0) (c8 20)) fun v8 =>
      if v8 = 0 then
        F_X12_tagCost_42 s
      else
        b2 (F_X12_tagCostOf a3 a1 a2 s) fun v12 s11 =>
        some (v12, s11)
set_option maxRecDepth 4000 in
theorem k_X12_tagCost_r {N : Nat} {xs : Nat → Int32} (d : Nat) {r : Option Value × mH} {s : mG} {a1 : Int32} {a2 : Int32} {a3 : Int32} {τ : (Int32 × mG)} (hJ : F_X12_tagCost a1 a2 a3 s = some τ) (hC : (fun τ => r = (some (.int τ.1), (SH, τ.2))) τ) : Rn N xs (d + 5) me275 0 [some (.ref 88), some (.int a1), some (.int a2), some (.int a3)] [] (SH, s) r := by
  unfold F_X12_tagCost at hJ
  refine Rn_sq srt275 0 3 (pc' := 5) (ls' := [some (.ref 88), some (.int a1), some (.int a2), some (.int a3)]) (st' := [(.int (c16 999)), (.int (ci 0)), (.int a1)]) (h1 := (SH, s)) rfl ?_
  obtain ⟨v2, h1, hJ⟩ := m_b1 hJ
  refine Rn_call srt275 3 rfl rfl rfl ⟨Nat.le_of_ble_eq_true rfl, Nat.le_of_ble_eq_true rfl, rfl, Nat.le_of_ble_eq_true rfl⟩ (k_X12_isIn (d + 4) h1) (show Rn N xs (d + 5) me275 8 [some (.ref 88), some (.int a1), some (.int a2), some (.int a3)] [(.int v2)] (SH, s) r from ?_)
  refine Rn_sq srt275 4 1 (pc' := (if v2 = 0 then 42 else 11)) (ls' := [some (.ref 88), some (.int a1), some (.int a2), some (.int a3)]) (st' := []) (h1 := (SH, s)) rfl (Rn_if (fun h3 => ?_) (fun h3 => ?_))
  · replace hJ := m_ifp h3 hJ
    exact Rn_weaken (a := [none, none, none, none]) (b := [some (.ref 88), some (.int a1), some (.int a2), some (.int a3)]) trivial rfl (k_X12_tagCost_42 d hJ hC)
  · replace hJ := m_ifn h3 hJ
    refine Rn_sq srt275 5 3 (pc' := 16) (ls' := [some (.ref 88), some (.int a1), some (.int a2), some (.int a3)]) (st' := [(.int (c16 999)), (.int (ci 0)), (.int a2)]) (h1 := (SH, s)) rfl ?_
    obtain ⟨v5, h4, hJ⟩ := m_b1 hJ
    refine Rn_call srt275 8 rfl rfl rfl ⟨Nat.le_of_ble_eq_true rfl, Nat.le_of_ble_eq_true rfl, rfl, Nat.le_of_ble_eq_true rfl⟩ (k_X12_isIn (d + 4) h4) (show Rn N xs (d + 5) me275 19 [some (.ref 88), some (.int a1), some (.int a2), some (.int a3)] [(.int v5)] (SH, s) r from ?_)
    refine Rn_sq srt275 9 1 (pc' := (if v5 = 0 then 42 else 22)) (ls' := [some (.ref 88), some (.int a1), some (.int a2), some (.int a3)]) (st' := []) (h1 := (SH, s)) rfl (Rn_if (fun h6 => ?_) (fun h6 => ?_))
    · replace hJ := m_ifp h6 hJ
      exact Rn_weaken (a := [none, none, none, none]) (b := [some (.ref 88), some (.int a1), some (.int a2), some (.int a3)]) trivial rfl (k_X12_tagCost_42 d hJ hC)
    · replace hJ := m_ifn h6 hJ
      refine Rn_sq srt275 10 3 (pc' := 26) (ls' := [some (.ref 88), some (.int a1), some (.int a2), some (.int a3)]) (st' := [(.int (c8 20)), (.int (ci 0)), (.int a3)]) (h1 := (SH, s)) rfl ?_
      obtain ⟨v8, h7, hJ⟩ := m_b1 hJ
      refine Rn_call srt275 13 rfl rfl rfl ⟨Nat.le_of_ble_eq_true rfl, Nat.le_of_ble_eq_true rfl, rfl, Nat.le_of_ble_eq_true rfl⟩ (k_X12_isIn (d + 4) h7) (show Rn N xs (d + 5) me275 29 [some (.ref 88), some (.int a1), some (.int a2), some (.int a3)] [(.int v8)] (SH, s) r from ?_)
      refine Rn_sq srt275 14 1 (pc' := (if v8 = 0 then 42 else 32)) (ls' := [some (.ref 88), some (.int a1), some (.int a2), some (.int a3)]) (st' := []) (h1 := (SH, s)) rfl (Rn_if (fun h9 => ?_) (fun h9 => ?_))
      · replace hJ := m_ifp h9 hJ
        exact Rn_weaken (a := [none, none, none, none]) (b := [some (.ref 88), some (.int a1), some (.int a2), some (.int a3)]) trivial rfl (k_X12_tagCost_42 d hJ hC)
      · replace hJ := m_ifn h9 hJ
        refine Rn_sq srt275 15 4 (pc' := 36) (ls' := [some (.ref 88), some (.int a1), some (.int a2), some (.int a3)]) (st' := [(.int a2), (.int a1), (.int a3), (.ref 88)]) (h1 := (SH, s)) rfl ?_
        obtain ⟨v12, s11, h10, hJ⟩ := m_b2 hJ
        refine Rn_call srt275 19 rfl rfl rfl ⟨Nat.le_of_ble_eq_true rfl, Nat.le_of_ble_eq_true rfl, rfl, Nat.le_of_ble_eq_true rfl⟩ (k_X12_tagCostOf (d) h10) (show Rn N xs (d + 5) me275 39 [some (.ref 88), some (.int a1), some (.int a2), some (.int a3)] [(.int v12)] (SH, s11) r from ?_)
        refine Rn_sq srt275 20 1 (pc' := 43) (ls' := [some (.ref 88), some (.int a1), some (.int a2), some (.int a3)]) (st' := [(.int v12)]) (h1 := (SH, s11)) rfl ?_
        rw [← Option.some.inj hJ] at hC
        have hC : r = (some (.int v12), (SH, s11)) := hC
        subst hC
        exact Rn_ret srt275 22 rfl rfl rfl
theorem k_X12_tagCost {N : Nat} {xs : Nat → Int32} (d : Nat) {s : mG} {a1 : Int32} {a2 : Int32} {a3 : Int32} {τ : (Int32 × mG)} (hJ : F_X12_tagCost a1 a2 a3 s = some τ) : Rn N xs (d + 5) me275 0 [some (.ref 88), some (.int a1), some (.int a2), some (.int a3)] [] (SH, s) (some (.int τ.1), (SH, τ.2)) := k_X12_tagCost_r d hJ rfl
/-! IsHeInModel.longFrom(IJ)I -/
theorem srt276 : m_srt mc276 = true := by decide +kernel
def C_X12_longFrom_6 (N : Nat) (xs : Nat → Int32) (s : mG) (d : Nat) (r : Option Value × mH) (C : (Int32) → Prop) : ((Int32 × Int64 × Int64 × Int32) ⊕ (Int32)) → Prop
  | .inl v => Rn N xs (d + 0) me276 6 [some (.ref 88), some (.int v.1), some (.long v.2.1), none, some (.long v.2.2.1), none, some (.int v.2.2.2)] [] (SH, s) r
  | .inr a => C a
def F_X12_longFrom_B6 (s : mG) (x1 : Int32) (x2 : Int64) (x4 : Int64) (x6 : Int32) : Option ((Int32 × Int64 × Int64 × Int32) ⊕ (Int32)) :=
  if (s.1 89 112) < x6 then
    some (Sum.inr (ci (-1)))
  else
    if x6 < 0 ∨ 13 ≤ x6.toNatClampNeg then none else
    let v3 : Int64 := (x4 + (s.2 98 x6.toNatClampNeg))
    if (lg_cmp v3 x2) < 0 then
      some (Sum.inl (x1, x2, v3, (x6 + ci 1)))
    else
      some (Sum.inr ((x6 - x1) + (ci 1)))
set_option maxRecDepth 4000 in
theorem k_X12_longFrom_B6 {N : Nat} {xs : Nat → Int32} (d : Nat) {r : Option Value × mH} {s : mG} {x1 : Int32} {x2 : Int64} {x4 : Int64} {x6 : Int32} {τ : ((Int32 × Int64 × Int64 × Int32) ⊕ (Int32))} (hJ : F_X12_longFrom_B6 s x1 x2 x4 x6 = some τ) (hC : (C_X12_longFrom_6 N xs s d r (fun τ => r = (some (.int τ), (SH, s)))) τ) : Rn N xs (d + 0) me276 6 [some (.ref 88), some (.int x1), some (.long x2), none, some (.long x4), none, some (.int x6)] [] (SH, s) r := by
  unfold F_X12_longFrom_B6 at hJ
  refine Rn_sq srt276 4 4 (pc' := 14) (ls' := [some (.ref 88), some (.int x1), some (.long x2), none, some (.long x4), none, some (.int x6)]) (st' := [(.int (c8 112)), (.ref 89), (.int x6)]) (h1 := (SH, s)) rfl ?_
  refine Rn_ev srt276 8 rfl rfl rfl (op_ia sh89 (by decide) (k := 112) rfl) ?_
  refine Rn_sq srt276 9 1 (pc' := (if (s.1 89 112) < x6 then 50 else 18)) (ls' := [some (.ref 88), some (.int x1), some (.long x2), none, some (.long x4), none, some (.int x6)]) (st' := []) (h1 := (SH, s)) rfl (Rn_if (fun h1 => ?_) (fun h1 => ?_))
  · replace hJ := m_ifp h1 hJ
    refine Rn_sq srt276 29 1 (pc' := 51) (ls' := [some (.ref 88), some (.int x1), some (.long x2), none, some (.long x4), none, some (.int x6)]) (st' := [(.int (ci (-1)))]) (h1 := (SH, s)) rfl ?_
    rw [← Option.some.inj hJ] at hC
    have hC : r = (some (.int (ci (-1))), (SH, s)) := hC
    subst hC
    exact Rn_ret srt276 30 rfl rfl rfl
  · replace hJ := m_ifn h1 hJ
    refine Rn_sq srt276 10 4 (pc' := 26) (ls' := [some (.ref 88), some (.int x1), some (.long x2), none, some (.long x4), none, some (.int x6)]) (st' := [(.int x6), (.ref 98), (.long x4)]) (h1 := (SH, s)) rfl ?_
    obtain ⟨h2, hJ⟩ := m_gn hJ
    refine Rn_ev srt276 14 rfl rfl rfl (op_la sh98 h2 (k := x6.toNatClampNeg) rfl) ?_
    extract_lets +onlyGivenNames v3 at hJ
    refine Rn_sq srt276 15 6 (pc' := (if (lg_cmp v3 x2) < 0 then 44 else 37)) (ls' := [some (.ref 88), some (.int x1), some (.long x2), none, some (.long v3), none, some (.int x6)]) (st' := []) (h1 := (SH, s)) rfl (Rn_if (fun h4 => ?_) (fun h4 => ?_))
    · replace hJ := m_ifp h4 hJ
      refine Rn_sq srt276 27 2 (pc' := 6) (ls' := [some (.ref 88), some (.int x1), some (.long x2), none, some (.long v3), none, some (.int (x6 + ci 1))]) (st' := []) (h1 := (SH, s)) rfl ?_
      rw [← Option.some.inj hJ] at hC
      exact hC
    · replace hJ := m_ifn h4 hJ
      refine Rn_sq srt276 21 5 (pc' := 43) (ls' := [some (.ref 88), some (.int x1), some (.long x2), none, some (.long v3), none, some (.int x6)]) (st' := [(.int ((x6 - x1) + (ci 1)))]) (h1 := (SH, s)) rfl ?_
      rw [← Option.some.inj hJ] at hC
      have hC : r = (some (.int ((x6 - x1) + (ci 1))), (SH, s)) := hC
      subst hC
      exact Rn_ret srt276 26 rfl rfl rfl
def F_X12_longFrom_L6 (s : mG) (x1 : Int32) (x2 : Int64) (x4 : Int64) (x6 : Int32) : Option (Int32) := whl (fun (v : (Int32 × Int64 × Int64 × Int32)) => F_X12_longFrom_B6 s v.1 v.2.1 v.2.2.1 v.2.2.2) (x1, x2, x4, x6)
theorem k_X12_longFrom_L6 {N : Nat} {xs : Nat → Int32} (d : Nat) {r : Option Value × mH} {s : mG} {x1 : Int32} {x2 : Int64} {x4 : Int64} {x6 : Int32} {τ : (Int32)} (hJ : F_X12_longFrom_L6 s x1 x2 x4 x6 = some τ) (hC : (fun τ => r = (some (.int τ), (SH, s))) τ) : Rn N xs (d + 0) me276 6 [some (.ref 88), some (.int x1), some (.long x2), none, some (.long x4), none, some (.int x6)] [] (SH, s) r :=
  whl_link (P := fun (v : (Int32 × Int64 × Int64 × Int32)) => Rn N xs (d + 0) me276 6 [some (.ref 88), some (.int v.1), some (.long v.2.1), none, some (.long v.2.2.1), none, some (.int v.2.2.2)] [] (SH, s) r) (C := (C_X12_longFrom_6 N xs s d r (fun τ => r = (some (.int τ), (SH, s))))) (fun v τ h1 h2 => k_X12_longFrom_B6 d h1 h2) (fun _ h => h) (fun _ h => h) _ _ hJ hC
def F_X12_longFrom (s : mG) (a1 : Int32) (a2 : Int64) : Option (Int32) :=
  F_X12_longFrom_L6 s a1 a2 (cz 0) a1
set_option maxRecDepth 4000 in
theorem k_X12_longFrom_r {N : Nat} {xs : Nat → Int32} (d : Nat) {r : Option Value × mH} {s : mG} {a1 : Int32} {a2 : Int64} {τ : (Int32)} (hJ : F_X12_longFrom s a1 a2 = some τ) (hC : (fun τ => r = (some (.int τ), (SH, s))) τ) : Rn N xs (d + 0) me276 0 [some (.ref 88), some (.int a1), some (.long a2), none, none, none, none] [] (SH, s) r := by
  unfold F_X12_longFrom at hJ
  refine Rn_sq srt276 0 4 (pc' := 6) (ls' := [some (.ref 88), some (.int a1), some (.long a2), none, some (.long (cz 0)), none, some (.int a1)]) (st' := []) (h1 := (SH, s)) rfl ?_
  exact (k_X12_longFrom_L6 d hJ hC)
theorem k_X12_longFrom {N : Nat} {xs : Nat → Int32} (d : Nat) {s : mG} {a1 : Int32} {a2 : Int64} {τ : (Int32)} (hJ : F_X12_longFrom s a1 a2 = some τ) : Rn N xs (d + 0) me276 0 [some (.ref 88), some (.int a1), some (.long a2), none, none, none, none] [] (SH, s) (some (.int τ), (SH, s)) := k_X12_longFrom_r d hJ rfl
/-! IsHeInModel.span(II)I -/
theorem srt277 : m_srt mc277 = true := by decide +kernel
def F_X12_span_20 (s : mG) : Option (Int32 × mG) :=
  some ((ci (-1)), s)
set_option maxRecDepth 4000 in
theorem k_X12_span_20 {N : Nat} {xs : Nat → Int32} (d : Nat) {r : Option Value × mH} {s : mG} {τ : (Int32 × mG)} (hJ : F_X12_span_20 s = some τ) (hC : (fun τ => r = (some (.int τ.1), (SH, τ.2))) τ) : Rn N xs (d + 7) me277 20 [none, none, none, none, none, none, none] [] (SH, s) r := by
  unfold F_X12_span_20 at hJ
  refine Rn_sq srt277 10 1 (pc' := 21) (ls' := [none, none, none, none, none, none, none]) (st' := [(.int (ci (-1)))]) (h1 := (SH, s)) rfl ?_
  rw [← Option.some.inj hJ] at hC
  have hC : r = (some (.int (ci (-1))), (SH, s)) := hC
  subst hC
  exact Rn_ret srt277 11 rfl rfl rfl
def C_X12_span_34 (N : Nat) (xs : Nat → Int32) (d : Nat) (r : Option Value × mH) (C : (Int32 × mG) → Prop) : ((Int32 × Int32 × Int32 × Int32 × Int32 × mG) ⊕ (Int32 × mG)) → Prop
  | .inl v => Rn N xs (d + 7) me277 34 [some (.ref 88), some (.int v.1), some (.int v.2.1), some (.int v.2.2.1), some (.int v.2.2.2.1), some (.int v.2.2.2.2.1), none] [] (SH, v.2.2.2.2.2) r
  | .inr a => C a
def F_X12_span_103 (x4 : Int32) (s : mG) : Option (Int32 × mG) :=
  some (x4, s)
set_option maxRecDepth 4000 in
theorem k_X12_span_103 {N : Nat} {xs : Nat → Int32} (d : Nat) {r : Option Value × mH} {s : mG} {x4 : Int32} {τ : (Int32 × mG)} (hJ : F_X12_span_103 x4 s = some τ) (hC : (fun τ => r = (some (.int τ.1), (SH, τ.2))) τ) : Rn N xs (d + 7) me277 103 [none, none, none, none, some (.int x4), none, none] [] (SH, s) r := by
  unfold F_X12_span_103 at hJ
  refine Rn_sq srt277 55 2 (pc' := 114) (ls' := [none, none, none, none, some (.int x4), none, none]) (st' := [(.int x4)]) (h1 := (SH, s)) rfl ?_
  rw [← Option.some.inj hJ] at hC
  have hC : r = (some (.int x4), (SH, s)) := hC
  subst hC
  exact Rn_ret srt277 62 rfl rfl rfl
def F_X12_span_87 (x1 : Int32) (x2 : Int32) (x3 : Int32) (x4 : Int32) (x5 : Int32) (s : mG) : Option ((Int32 × Int32 × Int32 × Int32 × Int32 × mG) ⊕ (Int32 × mG)) :=
  some (Sum.inl (x1, x2, x3, x4, (x5 + ci 1), s))
set_option maxRecDepth 4000 in
theorem k_X12_span_87 {N : Nat} {xs : Nat → Int32} (d : Nat) {r : Option Value × mH} {s : mG} {x1 : Int32} {x2 : Int32} {x3 : Int32} {x4 : Int32} {x5 : Int32} {τ : ((Int32 × Int32 × Int32 × Int32 × Int32 × mG) ⊕ (Int32 × mG))} (hJ : F_X12_span_87 x1 x2 x3 x4 x5 s = some τ) (hC : (C_X12_span_34 N xs d r (fun τ => r = (some (.int τ.1), (SH, τ.2)))) τ) : Rn N xs (d + 7) me277 87 [some (.ref 88), some (.int x1), some (.int x2), some (.int x3), some (.int x4), some (.int x5), none] [] (SH, s) r := by
  unfold F_X12_span_87 at hJ
  refine Rn_sq srt277 48 2 (pc' := 34) (ls' := [some (.ref 88), some (.int x1), some (.int x2), some (.int x3), some (.int x4), some (.int (x5 + ci 1)), none]) (st' := []) (h1 := (SH, s)) rfl ?_
  rw [← Option.some.inj hJ] at hC
  exact hC
def F_X12_span_80 (x1 : Int32) (x2 : Int32) (x5 : Int32) (x6 : Int32) (s : mG) : Option ((Int32 × Int32 × Int32 × Int32 × Int32 × mG) ⊕ (Int32 × mG)) :=
  F_X12_span_87 x1 x2 x6 x5 x5 s
set_option maxRecDepth 4000 in
theorem k_X12_span_80 {N : Nat} {xs : Nat → Int32} (d : Nat) {r : Option Value × mH} {s : mG} {x1 : Int32} {x2 : Int32} {x5 : Int32} {x6 : Int32} {τ : ((Int32 × Int32 × Int32 × Int32 × Int32 × mG) ⊕ (Int32 × mG))} (hJ : F_X12_span_80 x1 x2 x5 x6 s = some τ) (hC : (C_X12_span_34 N xs d r (fun τ => r = (some (.int τ.1), (SH, τ.2)))) τ) : Rn N xs (d + 7) me277 80 [some (.ref 88), some (.int x1), some (.int x2), none, none, some (.int x5), some (.int x6)] [] (SH, s) r := by
  unfold F_X12_span_80 at hJ
  refine Rn_sq srt277 44 4 (pc' := 87) (ls' := [some (.ref 88), some (.int x1), some (.int x2), some (.int x6), some (.int x5), some (.int x5), some (.int x6)]) (st' := []) (h1 := (SH, s)) rfl ?_
  exact Rn_weaken (a := [some (.ref 88), some (.int x1), some (.int x2), some (.int x6), some (.int x5), some (.int x5), none]) (b := [some (.ref 88), some (.int x1), some (.int x2), some (.int x6), some (.int x5), some (.int x5), some (.int x6)]) (And.intro rfl (And.intro rfl (And.intro rfl (And.intro rfl (And.intro rfl (And.intro rfl trivial)))))) rfl (k_X12_span_87 d hJ hC)
def F_X12_span_B34 (x1 : Int32) (x2 : Int32) (x3 : Int32) (x4 : Int32) (x5 : Int32) (s : mG) : Option ((Int32 × Int32 × Int32 × Int32 × Int32 × mG) ⊕ (Int32 × mG)) :=
  if (s.1 89 112) < x5 then
    if x4 = (ci (-1)) then
      b1 (F_X12_span_103 x4 s) fun τ => some (Sum.inr τ)
    else
      if x2 = 0 then
        b1 (F_X12_span_103 x4 s) fun τ => some (Sum.inr τ)
      else
        some (Sum.inr (((x4 + x3) - (ci 1)), s))
  else
    b1 (F_X12_longFrom s x5 ((cl 1000) * x1.toInt64)) fun v13 =>
    if v13 = (ci (-1)) then
      F_X12_span_87 x1 x2 x3 x4 x5 s
    else
      if x3 = (ci (-1)) then
        F_X12_span_80 x1 x2 x5 v13 s
      else
        if v13 < x3 then
          F_X12_span_80 x1 x2 x5 v13 s
        else
          F_X12_span_87 x1 x2 x3 x4 x5 s
set_option maxRecDepth 4000 in
theorem k_X12_span_B34 {N : Nat} {xs : Nat → Int32} (d : Nat) {r : Option Value × mH} {s : mG} {x1 : Int32} {x2 : Int32} {x3 : Int32} {x4 : Int32} {x5 : Int32} {τ : ((Int32 × Int32 × Int32 × Int32 × Int32 × mG) ⊕ (Int32 × mG))} (hJ : F_X12_span_B34 x1 x2 x3 x4 x5 s = some τ) (hC : (C_X12_span_34 N xs d r (fun τ => r = (some (.int τ.1), (SH, τ.2)))) τ) : Rn N xs (d + 7) me277 34 [some (.ref 88), some (.int x1), some (.int x2), some (.int x3), some (.int x4), some (.int x5), none] [] (SH, s) r := by
  unfold F_X12_span_B34 at hJ
  refine Rn_sq srt277 20 4 (pc' := 42) (ls' := [some (.ref 88), some (.int x1), some (.int x2), some (.int x3), some (.int x4), some (.int x5), none]) (st' := [(.int (c8 112)), (.ref 89), (.int x5)]) (h1 := (SH, s)) rfl ?_
  refine Rn_ev srt277 24 rfl rfl rfl (op_ia sh89 (by decide) (k := 112) rfl) ?_
  refine Rn_sq srt277 25 1 (pc' := (if (s.1 89 112) < x5 then 93 else 46)) (ls' := [some (.ref 88), some (.int x1), some (.int x2), some (.int x3), some (.int x4), some (.int x5), none]) (st' := []) (h1 := (SH, s)) rfl (Rn_if (fun h9 => ?_) (fun h9 => ?_))
  · replace hJ := m_ifp h9 hJ
    refine Rn_sq srt277 50 3 (pc' := (if x4 = (ci (-1)) then 103 else 99)) (ls' := [some (.ref 88), some (.int x1), some (.int x2), some (.int x3), some (.int x4), some (.int x5), none]) (st' := []) (h1 := (SH, s)) rfl (Rn_if (fun h10 => ?_) (fun h10 => ?_))
    · replace hJ := m_ifp h10 hJ
      obtain ⟨τ1, hJ1, hJ⟩ := m_b1 hJ
      rw [← Option.some.inj hJ] at hC
      exact Rn_weaken (a := [none, none, none, none, some (.int x4), none, none]) (b := [some (.ref 88), some (.int x1), some (.int x2), some (.int x3), some (.int x4), some (.int x5), none]) (And.intro rfl trivial) rfl (k_X12_span_103 d hJ1 hC)
    · replace hJ := m_ifn h10 hJ
      refine Rn_sq srt277 53 2 (pc' := (if x2 = 0 then 103 else 108)) (ls' := [some (.ref 88), some (.int x1), some (.int x2), some (.int x3), some (.int x4), some (.int x5), none]) (st' := []) (h1 := (SH, s)) rfl (Rn_if (fun h11 => ?_) (fun h11 => ?_))
      · replace hJ := m_ifp h11 hJ
        obtain ⟨τ1, hJ1, hJ⟩ := m_b1 hJ
        rw [← Option.some.inj hJ] at hC
        exact Rn_weaken (a := [none, none, none, none, some (.int x4), none, none]) (b := [some (.ref 88), some (.int x1), some (.int x2), some (.int x3), some (.int x4), some (.int x5), none]) (And.intro rfl trivial) rfl (k_X12_span_103 d hJ1 hC)
      · replace hJ := m_ifn h11 hJ
        refine Rn_sq srt277 57 5 (pc' := 114) (ls' := [some (.ref 88), some (.int x1), some (.int x2), some (.int x3), some (.int x4), some (.int x5), none]) (st' := [(.int ((x4 + x3) - (ci 1)))]) (h1 := (SH, s)) rfl ?_
        rw [← Option.some.inj hJ] at hC
        have hC : r = (some (.int ((x4 + x3) - (ci 1))), (SH, s)) := hC
        subst hC
        exact Rn_ret srt277 62 rfl rfl rfl
  · replace hJ := m_ifn h9 hJ
    refine Rn_sq srt277 26 6 (pc' := 55) (ls' := [some (.ref 88), some (.int x1), some (.int x2), some (.int x3), some (.int x4), some (.int x5), none]) (st' := [(.long ((cl 1000) * x1.toInt64)), (.int x5), (.ref 88)]) (h1 := (SH, s)) rfl ?_
    obtain ⟨v13, h12, hJ⟩ := m_b1 hJ
    refine Rn_call srt277 32 rfl rfl rfl ⟨Nat.le_of_ble_eq_true rfl, Nat.le_of_ble_eq_true rfl, rfl, Nat.le_of_ble_eq_true rfl⟩ (k_X12_longFrom (d + 6) h12) (show Rn N xs (d + 7) me277 58 [some (.ref 88), some (.int x1), some (.int x2), some (.int x3), some (.int x4), some (.int x5), none] [(.int v13)] (SH, s) r from ?_)
    refine Rn_sq srt277 33 4 (pc' := (if v13 = (ci (-1)) then 87 else 66)) (ls' := [some (.ref 88), some (.int x1), some (.int x2), some (.int x3), some (.int x4), some (.int x5), some (.int v13)]) (st' := []) (h1 := (SH, s)) rfl (Rn_if (fun h14 => ?_) (fun h14 => ?_))
    · replace hJ := m_ifp h14 hJ
      exact Rn_weaken (a := [some (.ref 88), some (.int x1), some (.int x2), some (.int x3), some (.int x4), some (.int x5), none]) (b := [some (.ref 88), some (.int x1), some (.int x2), some (.int x3), some (.int x4), some (.int x5), some (.int v13)]) (And.intro rfl (And.intro rfl (And.intro rfl (And.intro rfl (And.intro rfl (And.intro rfl trivial)))))) rfl (k_X12_span_87 d hJ hC)
    · replace hJ := m_ifn h14 hJ
      refine Rn_sq srt277 37 3 (pc' := (if x3 = (ci (-1)) then 80 else 71)) (ls' := [some (.ref 88), some (.int x1), some (.int x2), some (.int x3), some (.int x4), some (.int x5), some (.int v13)]) (st' := []) (h1 := (SH, s)) rfl (Rn_if (fun h15 => ?_) (fun h15 => ?_))
      · replace hJ := m_ifp h15 hJ
        exact Rn_weaken (a := [some (.ref 88), some (.int x1), some (.int x2), none, none, some (.int x5), some (.int v13)]) (b := [some (.ref 88), some (.int x1), some (.int x2), some (.int x3), some (.int x4), some (.int x5), some (.int v13)]) (And.intro rfl (And.intro rfl (And.intro rfl (And.intro rfl (And.intro rfl trivial))))) rfl (k_X12_span_80 d hJ hC)
      · replace hJ := m_ifn h15 hJ
        refine Rn_sq srt277 40 3 (pc' := (if v13 < x3 then 80 else 77)) (ls' := [some (.ref 88), some (.int x1), some (.int x2), some (.int x3), some (.int x4), some (.int x5), some (.int v13)]) (st' := []) (h1 := (SH, s)) rfl (Rn_if (fun h16 => ?_) (fun h16 => ?_))
        · replace hJ := m_ifp h16 hJ
          exact Rn_weaken (a := [some (.ref 88), some (.int x1), some (.int x2), none, none, some (.int x5), some (.int v13)]) (b := [some (.ref 88), some (.int x1), some (.int x2), some (.int x3), some (.int x4), some (.int x5), some (.int v13)]) (And.intro rfl (And.intro rfl (And.intro rfl (And.intro rfl (And.intro rfl trivial))))) rfl (k_X12_span_80 d hJ hC)
        · replace hJ := m_ifn h16 hJ
          refine Rn_sq srt277 43 1 (pc' := 87) (ls' := [some (.ref 88), some (.int x1), some (.int x2), some (.int x3), some (.int x4), some (.int x5), some (.int v13)]) (st' := []) (h1 := (SH, s)) rfl ?_
          exact Rn_weaken (a := [some (.ref 88), some (.int x1), some (.int x2), some (.int x3), some (.int x4), some (.int x5), none]) (b := [some (.ref 88), some (.int x1), some (.int x2), some (.int x3), some (.int x4), some (.int x5), some (.int v13)]) (And.intro rfl (And.intro rfl (And.intro rfl (And.intro rfl (And.intro rfl (And.intro rfl trivial)))))) rfl (k_X12_span_87 d hJ hC)
def F_X12_span_L34 (x1 : Int32) (x2 : Int32) (x3 : Int32) (x4 : Int32) (x5 : Int32) (s : mG) : Option (Int32 × mG) := whl (fun (v : (Int32 × Int32 × Int32 × Int32 × Int32 × mG)) => F_X12_span_B34 v.1 v.2.1 v.2.2.1 v.2.2.2.1 v.2.2.2.2.1 v.2.2.2.2.2) (x1, x2, x3, x4, x5, s)
theorem k_X12_span_L34 {N : Nat} {xs : Nat → Int32} (d : Nat) {r : Option Value × mH} {s : mG} {x1 : Int32} {x2 : Int32} {x3 : Int32} {x4 : Int32} {x5 : Int32} {τ : (Int32 × mG)} (hJ : F_X12_span_L34 x1 x2 x3 x4 x5 s = some τ) (hC : (fun τ => r = (some (.int τ.1), (SH, τ.2))) τ) : Rn N xs (d + 7) me277 34 [some (.ref 88), some (.int x1), some (.int x2), some (.int x3), some (.int x4), some (.int x5), none] [] (SH, s) r :=
  whl_link (P := fun (v : (Int32 × Int32 × Int32 × Int32 × Int32 × mG)) => Rn N xs (d + 7) me277 34 [some (.ref 88), some (.int v.1), some (.int v.2.1), some (.int v.2.2.1), some (.int v.2.2.2.1), some (.int v.2.2.2.2.1), none] [] (SH, v.2.2.2.2.2) r) (C := (C_X12_span_34 N xs d r (fun τ => r = (some (.int τ.1), (SH, τ.2))))) (fun v τ h1 h2 => k_X12_span_B34 d h1 h2) (fun _ h => h) (fun _ h => h) _ _ hJ hC
def F_X12_span (a1 : Int32) (a2 : Int32) (s : mG) : Option (Int32 × mG) :=
  b1 (F_X12_isIn s a1 (ci 0) (c16 1000)) fun v2 =>
  if v2 = 0 then
    F_X12_span_20 s
  else
    b1 (F_X12_isIn s a2 (ci 0) (ci 1)) fun v5 =>
    if v5 = 0 then
      F_X12_span_20 s
    else
      b1 (F_X12_laysChances s) fun s8 =>
      F_X12_span_L34 a1 a2 (ci (-1)) (ci (-1)) (ci 0) s8
set_option maxRecDepth 4000 in
theorem k_X12_span_r {N : Nat} {xs : Nat → Int32} (d : Nat) {r : Option Value × mH} {s : mG} {a1 : Int32} {a2 : Int32} {τ : (Int32 × mG)} (hJ : F_X12_span a1 a2 s = some τ) (hC : (fun τ => r = (some (.int τ.1), (SH, τ.2))) τ) : Rn N xs (d + 7) me277 0 [some (.ref 88), some (.int a1), some (.int a2), none, none, none, none] [] (SH, s) r := by
  unfold F_X12_span at hJ
  refine Rn_sq srt277 0 3 (pc' := 5) (ls' := [some (.ref 88), some (.int a1), some (.int a2), none, none, none, none]) (st' := [(.int (c16 1000)), (.int (ci 0)), (.int a1)]) (h1 := (SH, s)) rfl ?_
  obtain ⟨v2, h1, hJ⟩ := m_b1 hJ
  refine Rn_call srt277 3 rfl rfl rfl ⟨Nat.le_of_ble_eq_true rfl, Nat.le_of_ble_eq_true rfl, rfl, Nat.le_of_ble_eq_true rfl⟩ (k_X12_isIn (d + 6) h1) (show Rn N xs (d + 7) me277 8 [some (.ref 88), some (.int a1), some (.int a2), none, none, none, none] [(.int v2)] (SH, s) r from ?_)
  refine Rn_sq srt277 4 1 (pc' := (if v2 = 0 then 20 else 11)) (ls' := [some (.ref 88), some (.int a1), some (.int a2), none, none, none, none]) (st' := []) (h1 := (SH, s)) rfl (Rn_if (fun h3 => ?_) (fun h3 => ?_))
  · replace hJ := m_ifp h3 hJ
    exact Rn_weaken (a := [none, none, none, none, none, none, none]) (b := [some (.ref 88), some (.int a1), some (.int a2), none, none, none, none]) trivial rfl (k_X12_span_20 d hJ hC)
  · replace hJ := m_ifn h3 hJ
    refine Rn_sq srt277 5 3 (pc' := 14) (ls' := [some (.ref 88), some (.int a1), some (.int a2), none, none, none, none]) (st' := [(.int (ci 1)), (.int (ci 0)), (.int a2)]) (h1 := (SH, s)) rfl ?_
    obtain ⟨v5, h4, hJ⟩ := m_b1 hJ
    refine Rn_call srt277 8 rfl rfl rfl ⟨Nat.le_of_ble_eq_true rfl, Nat.le_of_ble_eq_true rfl, rfl, Nat.le_of_ble_eq_true rfl⟩ (k_X12_isIn (d + 6) h4) (show Rn N xs (d + 7) me277 17 [some (.ref 88), some (.int a1), some (.int a2), none, none, none, none] [(.int v5)] (SH, s) r from ?_)
    refine Rn_sq srt277 9 1 (pc' := (if v5 = 0 then 20 else 22)) (ls' := [some (.ref 88), some (.int a1), some (.int a2), none, none, none, none]) (st' := []) (h1 := (SH, s)) rfl (Rn_if (fun h6 => ?_) (fun h6 => ?_))
    · replace hJ := m_ifp h6 hJ
      exact Rn_weaken (a := [none, none, none, none, none, none, none]) (b := [some (.ref 88), some (.int a1), some (.int a2), none, none, none, none]) trivial rfl (k_X12_span_20 d hJ hC)
    · replace hJ := m_ifn h6 hJ
      refine Rn_sq srt277 12 1 (pc' := 23) (ls' := [some (.ref 88), some (.int a1), some (.int a2), none, none, none, none]) (st' := [(.ref 88)]) (h1 := (SH, s)) rfl ?_
      obtain ⟨s8, h7, hJ⟩ := m_b1 hJ
      refine Rn_call srt277 13 rfl rfl rfl ⟨Nat.le_of_ble_eq_true rfl, Nat.le_of_ble_eq_true rfl, rfl, Nat.le_of_ble_eq_true rfl⟩ (k_X12_laysChances (d) h7) (show Rn N xs (d + 7) me277 26 [some (.ref 88), some (.int a1), some (.int a2), none, none, none, none] [] (SH, s8) r from ?_)
      refine Rn_sq srt277 14 6 (pc' := 34) (ls' := [some (.ref 88), some (.int a1), some (.int a2), some (.int (ci (-1))), some (.int (ci (-1))), some (.int (ci 0)), none]) (st' := []) (h1 := (SH, s8)) rfl ?_
      exact (k_X12_span_L34 d hJ hC)
theorem k_X12_span {N : Nat} {xs : Nat → Int32} (d : Nat) {s : mG} {a1 : Int32} {a2 : Int32} {τ : (Int32 × mG)} (hJ : F_X12_span a1 a2 s = some τ) : Rn N xs (d + 7) me277 0 [some (.ref 88), some (.int a1), some (.int a2), none, none, none, none] [] (SH, s) (some (.int τ.1), (SH, τ.2)) := k_X12_span_r d hJ rfl
/-! IsHeInModel.laysOthers(I)V -/
theorem srt278 : m_srt mc278 = true := by decide +kernel
def C_X12_laysOthers_2 (N : Nat) (xs : Nat → Int32) (d : Nat) (r : Option Value × mH) (C : (mG) → Prop) : ((Int32 × Int32 × mG) ⊕ (mG)) → Prop
  | .inl v => Rn N xs (d + 6) me278 2 [some (.ref 88), some (.int v.1), some (.int v.2.1), none, none, none] [] (SH, v.2.2) r
  | .inr a => C a
def C_X12_laysOthers_34 (N : Nat) (xs : Nat → Int32) (d : Nat) (r : Option Value × mH) (C : (mG) → Prop) : ((Int32 × Int32 × mG) ⊕ (mG)) → Prop
  | .inl v => Rn N xs (d + 6) me278 34 [some (.ref 88), some (.int v.1), some (.int v.2.1), none, none, none] [] (SH, v.2.2) r
  | .inr a => C a
def F_X12_laysOthers_115 (x1 : Int32) (x2 : Int32) (s : mG) : Option ((Int32 × Int32 × mG) ⊕ (mG)) :=
  some (Sum.inl (x1, (x2 + ci 1), s))
set_option maxRecDepth 4000 in
theorem k_X12_laysOthers_115 {N : Nat} {xs : Nat → Int32} (d : Nat) {r : Option Value × mH} {s : mG} {x1 : Int32} {x2 : Int32} {τ : ((Int32 × Int32 × mG) ⊕ (mG))} (hJ : F_X12_laysOthers_115 x1 x2 s = some τ) (hC : (C_X12_laysOthers_34 N xs d r (fun τ => r = (none, (SH, τ)))) τ) : Rn N xs (d + 6) me278 115 [some (.ref 88), some (.int x1), some (.int x2), none, none, none] [] (SH, s) r := by
  unfold F_X12_laysOthers_115 at hJ
  refine Rn_sq srt278 65 2 (pc' := 34) (ls' := [some (.ref 88), some (.int x1), some (.int (x2 + ci 1)), none, none, none]) (st' := []) (h1 := (SH, s)) rfl ?_
  rw [← Option.some.inj hJ] at hC
  exact hC
def C_X12_laysOthers_63 (N : Nat) (xs : Nat → Int32) (d : Nat) (r : Option Value × mH) (C : ((Int32 × Int32 × mG) ⊕ (mG)) → Prop) : ((Int32 × Int32 × Int64 × Int32 × mG) ⊕ ((Int32 × Int32 × mG) ⊕ (mG))) → Prop
  | .inl v => Rn N xs (d + 6) me278 63 [some (.ref 88), some (.int v.1), some (.int v.2.1), some (.long v.2.2.1), none, some (.int v.2.2.2.1)] [] (SH, v.2.2.2.2) r
  | .inr a => C a
def F_X12_laysOthers_B63 (x1 : Int32) (x2 : Int32) (x3 : Int64) (x5 : Int32) (s : mG) : Option ((Int32 × Int32 × Int64 × Int32 × mG) ⊕ ((Int32 × Int32 × mG) ⊕ (mG))) :=
  if x5 < (ci 1) then
    b1 (F_X12_laysOthers_115 x1 x2 s) fun τ => some (Sum.inr τ)
  else
    if x5 < 0 ∨ 14 ≤ x5.toNatClampNeg then none else
    if (x5 - (ci 1)) < 0 ∨ 14 ≤ (x5 - (ci 1)).toNatClampNeg then none else
    if x5 < 0 ∨ 14 ≤ x5.toNatClampNeg then none else
    let s11 : mG := (s.1, muL s.2 99 x5.toNatClampNeg ((((s.2 99 x5.toNatClampNeg) * ((cl 1000000) - x3)) / (cl 1000000)) + (((s.2 99 (x5 - (ci 1)).toNatClampNeg) * x3) / (cl 1000000))))
    some (Sum.inl (x1, x2, x3, (x5 + ci (-1)), s11))
set_option maxRecDepth 4000 in
theorem k_X12_laysOthers_B63 {N : Nat} {xs : Nat → Int32} (d : Nat) {r : Option Value × mH} {s : mG} {x1 : Int32} {x2 : Int32} {x3 : Int64} {x5 : Int32} {τ : ((Int32 × Int32 × Int64 × Int32 × mG) ⊕ ((Int32 × Int32 × mG) ⊕ (mG)))} (hJ : F_X12_laysOthers_B63 x1 x2 x3 x5 s = some τ) (hC : (C_X12_laysOthers_63 N xs d r (C_X12_laysOthers_34 N xs d r (fun τ => r = (none, (SH, τ))))) τ) : Rn N xs (d + 6) me278 63 [some (.ref 88), some (.int x1), some (.int x2), some (.long x3), none, some (.int x5)] [] (SH, s) r := by
  unfold F_X12_laysOthers_B63 at hJ
  refine Rn_sq srt278 35 3 (pc' := (if x5 < (ci 1) then 115 else 69)) (ls' := [some (.ref 88), some (.int x1), some (.int x2), some (.long x3), none, some (.int x5)]) (st' := []) (h1 := (SH, s)) rfl (Rn_if (fun h7 => ?_) (fun h7 => ?_))
  · replace hJ := m_ifp h7 hJ
    obtain ⟨τ1, hJ1, hJ⟩ := m_b1 hJ
    rw [← Option.some.inj hJ] at hC
    exact Rn_weaken (a := [some (.ref 88), some (.int x1), some (.int x2), none, none, none]) (b := [some (.ref 88), some (.int x1), some (.int x2), some (.long x3), none, some (.int x5)]) (And.intro rfl (And.intro rfl (And.intro rfl trivial))) rfl (k_X12_laysOthers_115 d hJ1 hC)
  · replace hJ := m_ifn h7 hJ
    refine Rn_sq srt278 38 6 (pc' := 81) (ls' := [some (.ref 88), some (.int x1), some (.int x2), some (.long x3), none, some (.int x5)]) (st' := [(.int x5), (.ref 99), (.int x5), (.ref 99)]) (h1 := (SH, s)) rfl ?_
    obtain ⟨h8, hJ⟩ := m_gn hJ
    refine Rn_ev srt278 44 rfl rfl rfl (op_la sh99 h8 (k := x5.toNatClampNeg) rfl) ?_
    refine Rn_sq srt278 45 5 (pc' := 91) (ls' := [some (.ref 88), some (.int x1), some (.int x2), some (.long x3), none, some (.int x5)]) (st' := [(.long (cl 1000000)), (.long ((s.2 99 x5.toNatClampNeg) * ((cl 1000000) - x3))), (.int x5), (.ref 99)]) (h1 := (SH, s)) rfl ?_
    refine Rn_ev srt278 50 rfl rfl rfl (op_ldiv (by decide)) ?_
    refine Rn_sq srt278 51 5 (pc' := 100) (ls' := [some (.ref 88), some (.int x1), some (.int x2), some (.long x3), none, some (.int x5)]) (st' := [(.int (x5 - (ci 1))), (.ref 99), (.long (((s.2 99 x5.toNatClampNeg) * ((cl 1000000) - x3)) / (cl 1000000))), (.int x5), (.ref 99)]) (h1 := (SH, s)) rfl ?_
    obtain ⟨h9, hJ⟩ := m_gn hJ
    refine Rn_ev srt278 56 rfl rfl rfl (op_la sh99 h9 (k := (x5 - (ci 1)).toNatClampNeg) rfl) ?_
    refine Rn_sq srt278 57 3 (pc' := 106) (ls' := [some (.ref 88), some (.int x1), some (.int x2), some (.long x3), none, some (.int x5)]) (st' := [(.long (cl 1000000)), (.long ((s.2 99 (x5 - (ci 1)).toNatClampNeg) * x3)), (.long (((s.2 99 x5.toNatClampNeg) * ((cl 1000000) - x3)) / (cl 1000000))), (.int x5), (.ref 99)]) (h1 := (SH, s)) rfl ?_
    refine Rn_ev srt278 60 rfl rfl rfl (op_ldiv (by decide)) ?_
    refine Rn_sq srt278 61 1 (pc' := 108) (ls' := [some (.ref 88), some (.int x1), some (.int x2), some (.long x3), none, some (.int x5)]) (st' := [(.long ((((s.2 99 x5.toNatClampNeg) * ((cl 1000000) - x3)) / (cl 1000000)) + (((s.2 99 (x5 - (ci 1)).toNatClampNeg) * x3) / (cl 1000000)))), (.int x5), (.ref 99)]) (h1 := (SH, s)) rfl ?_
    obtain ⟨h10, hJ⟩ := m_gn hJ
    extract_lets +onlyGivenNames s11 at hJ
    refine Rn_ev srt278 62 rfl rfl rfl (op_las sh99 h10 (k := x5.toNatClampNeg) rfl) ?_
    refine Rn_sq srt278 63 2 (pc' := 63) (ls' := [some (.ref 88), some (.int x1), some (.int x2), some (.long x3), none, some (.int (x5 + ci (-1)))]) (st' := []) (h1 := (SH, s11)) rfl ?_
    rw [← Option.some.inj hJ] at hC
    exact hC
def F_X12_laysOthers_L63 (x1 : Int32) (x2 : Int32) (x3 : Int64) (x5 : Int32) (s : mG) : Option ((Int32 × Int32 × mG) ⊕ (mG)) := whl (fun (v : (Int32 × Int32 × Int64 × Int32 × mG)) => F_X12_laysOthers_B63 v.1 v.2.1 v.2.2.1 v.2.2.2.1 v.2.2.2.2) (x1, x2, x3, x5, s)
theorem k_X12_laysOthers_L63 {N : Nat} {xs : Nat → Int32} (d : Nat) {r : Option Value × mH} {s : mG} {x1 : Int32} {x2 : Int32} {x3 : Int64} {x5 : Int32} {τ : ((Int32 × Int32 × mG) ⊕ (mG))} (hJ : F_X12_laysOthers_L63 x1 x2 x3 x5 s = some τ) (hC : (C_X12_laysOthers_34 N xs d r (fun τ => r = (none, (SH, τ)))) τ) : Rn N xs (d + 6) me278 63 [some (.ref 88), some (.int x1), some (.int x2), some (.long x3), none, some (.int x5)] [] (SH, s) r :=
  whl_link (P := fun (v : (Int32 × Int32 × Int64 × Int32 × mG)) => Rn N xs (d + 6) me278 63 [some (.ref 88), some (.int v.1), some (.int v.2.1), some (.long v.2.2.1), none, some (.int v.2.2.2.1)] [] (SH, v.2.2.2.2) r) (C := (C_X12_laysOthers_63 N xs d r (C_X12_laysOthers_34 N xs d r (fun τ => r = (none, (SH, τ)))))) (fun v τ h1 h2 => k_X12_laysOthers_B63 d h1 h2) (fun _ h => h) (fun _ h => h) _ _ hJ hC
def F_X12_laysOthers_B34 (x1 : Int32) (x2 : Int32) (s : mG) : Option ((Int32 × Int32 × mG) ⊕ (mG)) :=
  if (s.1 89 112) ≤ x2 then
    some (Sum.inr s)
  else
    if x2 = x1 then
      F_X12_laysOthers_115 x1 x2 s
    else
      b2 (F_X12_sureOf x2 s) fun v6 s5 =>
      F_X12_laysOthers_L63 x1 x2 v6 (c8 13) s5
set_option maxRecDepth 4000 in
theorem k_X12_laysOthers_B34 {N : Nat} {xs : Nat → Int32} (d : Nat) {r : Option Value × mH} {s : mG} {x1 : Int32} {x2 : Int32} {τ : ((Int32 × Int32 × mG) ⊕ (mG))} (hJ : F_X12_laysOthers_B34 x1 x2 s = some τ) (hC : (C_X12_laysOthers_34 N xs d r (fun τ => r = (none, (SH, τ)))) τ) : Rn N xs (d + 6) me278 34 [some (.ref 88), some (.int x1), some (.int x2), none, none, none] [] (SH, s) r := by
  unfold F_X12_laysOthers_B34 at hJ
  refine Rn_sq srt278 19 4 (pc' := 41) (ls' := [some (.ref 88), some (.int x1), some (.int x2), none, none, none]) (st' := [(.int (c8 112)), (.ref 89), (.int x2)]) (h1 := (SH, s)) rfl ?_
  refine Rn_ev srt278 23 rfl rfl rfl (op_ia sh89 (by decide) (k := 112) rfl) ?_
  refine Rn_sq srt278 24 1 (pc' := (if (s.1 89 112) ≤ x2 then 121 else 45)) (ls' := [some (.ref 88), some (.int x1), some (.int x2), none, none, none]) (st' := []) (h1 := (SH, s)) rfl (Rn_if (fun h2 => ?_) (fun h2 => ?_))
  · replace hJ := m_ifp h2 hJ
    rw [← Option.some.inj hJ] at hC
    have hC : r = (none, (SH, s)) := hC
    subst hC
    exact Rn_ret srt278 67 rfl rfl rfl
  · replace hJ := m_ifn h2 hJ
    refine Rn_sq srt278 25 3 (pc' := (if x2 = x1 then 50 else 53)) (ls' := [some (.ref 88), some (.int x1), some (.int x2), none, none, none]) (st' := []) (h1 := (SH, s)) rfl (Rn_if (fun h3 => ?_) (fun h3 => ?_))
    · replace hJ := m_ifp h3 hJ
      refine Rn_sq srt278 28 1 (pc' := 115) (ls' := [some (.ref 88), some (.int x1), some (.int x2), none, none, none]) (st' := []) (h1 := (SH, s)) rfl ?_
      exact (k_X12_laysOthers_115 d hJ hC)
    · replace hJ := m_ifn h3 hJ
      refine Rn_sq srt278 29 2 (pc' := 55) (ls' := [some (.ref 88), some (.int x1), some (.int x2), none, none, none]) (st' := [(.int x2), (.ref 88)]) (h1 := (SH, s)) rfl ?_
      obtain ⟨v6, s5, h4, hJ⟩ := m_b2 hJ
      refine Rn_call srt278 31 rfl rfl rfl ⟨Nat.le_of_ble_eq_true rfl, Nat.le_of_ble_eq_true rfl, rfl, Nat.le_of_ble_eq_true rfl⟩ (k_X12_sureOf (d) h4) (show Rn N xs (d + 6) me278 58 [some (.ref 88), some (.int x1), some (.int x2), none, none, none] [(.long v6)] (SH, s5) r from ?_)
      refine Rn_sq srt278 32 3 (pc' := 63) (ls' := [some (.ref 88), some (.int x1), some (.int x2), some (.long v6), none, some (.int (c8 13))]) (st' := []) (h1 := (SH, s5)) rfl ?_
      exact (k_X12_laysOthers_L63 d hJ hC)
def F_X12_laysOthers_L34 (x1 : Int32) (x2 : Int32) (s : mG) : Option (mG) := whl (fun (v : (Int32 × Int32 × mG)) => F_X12_laysOthers_B34 v.1 v.2.1 v.2.2) (x1, x2, s)
theorem k_X12_laysOthers_L34 {N : Nat} {xs : Nat → Int32} (d : Nat) {r : Option Value × mH} {s : mG} {x1 : Int32} {x2 : Int32} {τ : (mG)} (hJ : F_X12_laysOthers_L34 x1 x2 s = some τ) (hC : (fun τ => r = (none, (SH, τ))) τ) : Rn N xs (d + 6) me278 34 [some (.ref 88), some (.int x1), some (.int x2), none, none, none] [] (SH, s) r :=
  whl_link (P := fun (v : (Int32 × Int32 × mG)) => Rn N xs (d + 6) me278 34 [some (.ref 88), some (.int v.1), some (.int v.2.1), none, none, none] [] (SH, v.2.2) r) (C := (C_X12_laysOthers_34 N xs d r (fun τ => r = (none, (SH, τ))))) (fun v τ h1 h2 => k_X12_laysOthers_B34 d h1 h2) (fun _ h => h) (fun _ h => h) _ _ hJ hC
def F_X12_laysOthers_25 (x1 : Int32) (x2 : Int32) (y1 : Int32) (y2 : Int64) (s : mG) : Option ((Int32 × Int32 × mG) ⊕ (mG)) :=
  if y1 < 0 ∨ 14 ≤ y1.toNatClampNeg then none else
  let s14 : mG := (s.1, muL s.2 99 y1.toNatClampNeg y2)
  some (Sum.inl (x1, (x2 + ci 1), s14))
set_option maxRecDepth 4000 in
theorem k_X12_laysOthers_25 {N : Nat} {xs : Nat → Int32} (d : Nat) {r : Option Value × mH} {s : mG} {x1 : Int32} {x2 : Int32} {y1 : Int32} {y2 : Int64} {τ : ((Int32 × Int32 × mG) ⊕ (mG))} (hJ : F_X12_laysOthers_25 x1 x2 y1 y2 s = some τ) (hC : (C_X12_laysOthers_2 N xs d r (fun τ => r = (none, (SH, τ)))) τ) : Rn N xs (d + 6) me278 25 [some (.ref 88), some (.int x1), some (.int x2), none, none, none] [(.long y2), (.int y1), (.ref 99)] (SH, s) r := by
  unfold F_X12_laysOthers_25 at hJ
  obtain ⟨h13, hJ⟩ := m_gn hJ
  extract_lets +onlyGivenNames s14 at hJ
  refine Rn_ev srt278 14 rfl rfl rfl (op_las sh99 h13 (k := y1.toNatClampNeg) rfl) ?_
  refine Rn_sq srt278 15 2 (pc' := 2) (ls' := [some (.ref 88), some (.int x1), some (.int (x2 + ci 1)), none, none, none]) (st' := []) (h1 := (SH, s14)) rfl ?_
  rw [← Option.some.inj hJ] at hC
  exact hC
def F_X12_laysOthers_B2 (x1 : Int32) (x2 : Int32) (s : mG) : Option ((Int32 × Int32 × mG) ⊕ (mG)) :=
  if (c8 14) ≤ x2 then
    b1 (F_X12_laysOthers_L34 x1 (ci 0) s) fun τ => some (Sum.inr τ)
  else
    if x2 = (ci 1) then
      F_X12_laysOthers_25 x1 x2 x2 (cl 1000000) s
    else
      F_X12_laysOthers_25 x1 x2 x2 (cz 0) s
set_option maxRecDepth 4000 in
theorem k_X12_laysOthers_B2 {N : Nat} {xs : Nat → Int32} (d : Nat) {r : Option Value × mH} {s : mG} {x1 : Int32} {x2 : Int32} {τ : ((Int32 × Int32 × mG) ⊕ (mG))} (hJ : F_X12_laysOthers_B2 x1 x2 s = some τ) (hC : (C_X12_laysOthers_2 N xs d r (fun τ => r = (none, (SH, τ)))) τ) : Rn N xs (d + 6) me278 2 [some (.ref 88), some (.int x1), some (.int x2), none, none, none] [] (SH, s) r := by
  unfold F_X12_laysOthers_B2 at hJ
  refine Rn_sq srt278 2 3 (pc' := (if (c8 14) ≤ x2 then 32 else 8)) (ls' := [some (.ref 88), some (.int x1), some (.int x2), none, none, none]) (st' := []) (h1 := (SH, s)) rfl (Rn_if (fun h1 => ?_) (fun h1 => ?_))
  · replace hJ := m_ifp h1 hJ
    refine Rn_sq srt278 17 2 (pc' := 34) (ls' := [some (.ref 88), some (.int x1), some (.int (ci 0)), none, none, none]) (st' := []) (h1 := (SH, s)) rfl ?_
    obtain ⟨τ1, hJ1, hJ⟩ := m_b1 hJ
    rw [← Option.some.inj hJ] at hC
    exact (k_X12_laysOthers_L34 d hJ1 hC)
  · replace hJ := m_ifn h1 hJ
    refine Rn_sq srt278 5 6 (pc' := (if x2 = (ci 1) then 18 else 24)) (ls' := [some (.ref 88), some (.int x1), some (.int x2), none, none, none]) (st' := [(.int x2), (.ref 99)]) (h1 := (SH, s)) rfl (Rn_if (fun h12 => ?_) (fun h12 => ?_))
    · replace hJ := m_ifp h12 hJ
      refine Rn_sq srt278 11 2 (pc' := 25) (ls' := [some (.ref 88), some (.int x1), some (.int x2), none, none, none]) (st' := [(.long (cl 1000000)), (.int x2), (.ref 99)]) (h1 := (SH, s)) rfl ?_
      exact (k_X12_laysOthers_25 d hJ hC)
    · replace hJ := m_ifn h12 hJ
      refine Rn_sq srt278 13 1 (pc' := 25) (ls' := [some (.ref 88), some (.int x1), some (.int x2), none, none, none]) (st' := [(.long (cz 0)), (.int x2), (.ref 99)]) (h1 := (SH, s)) rfl ?_
      exact (k_X12_laysOthers_25 d hJ hC)
def F_X12_laysOthers_L2 (x1 : Int32) (x2 : Int32) (s : mG) : Option (mG) := whl (fun (v : (Int32 × Int32 × mG)) => F_X12_laysOthers_B2 v.1 v.2.1 v.2.2) (x1, x2, s)
theorem k_X12_laysOthers_L2 {N : Nat} {xs : Nat → Int32} (d : Nat) {r : Option Value × mH} {s : mG} {x1 : Int32} {x2 : Int32} {τ : (mG)} (hJ : F_X12_laysOthers_L2 x1 x2 s = some τ) (hC : (fun τ => r = (none, (SH, τ))) τ) : Rn N xs (d + 6) me278 2 [some (.ref 88), some (.int x1), some (.int x2), none, none, none] [] (SH, s) r :=
  whl_link (P := fun (v : (Int32 × Int32 × mG)) => Rn N xs (d + 6) me278 2 [some (.ref 88), some (.int v.1), some (.int v.2.1), none, none, none] [] (SH, v.2.2) r) (C := (C_X12_laysOthers_2 N xs d r (fun τ => r = (none, (SH, τ))))) (fun v τ h1 h2 => k_X12_laysOthers_B2 d h1 h2) (fun _ h => h) (fun _ h => h) _ _ hJ hC
def F_X12_laysOthers (a1 : Int32) (s : mG) : Option (mG) :=
  F_X12_laysOthers_L2 a1 (ci 0) s
set_option maxRecDepth 4000 in
theorem k_X12_laysOthers_r {N : Nat} {xs : Nat → Int32} (d : Nat) {r : Option Value × mH} {s : mG} {a1 : Int32} {τ : (mG)} (hJ : F_X12_laysOthers a1 s = some τ) (hC : (fun τ => r = (none, (SH, τ))) τ) : Rn N xs (d + 6) me278 0 [some (.ref 88), some (.int a1), none, none, none, none] [] (SH, s) r := by
  unfold F_X12_laysOthers at hJ
  refine Rn_sq srt278 0 2 (pc' := 2) (ls' := [some (.ref 88), some (.int a1), some (.int (ci 0)), none, none, none]) (st' := []) (h1 := (SH, s)) rfl ?_
  exact (k_X12_laysOthers_L2 d hJ hC)
theorem k_X12_laysOthers {N : Nat} {xs : Nat → Int32} (d : Nat) {s : mG} {a1 : Int32} {τ : (mG)} (hJ : F_X12_laysOthers a1 s = some τ) : Rn N xs (d + 6) me278 0 [some (.ref 88), some (.int a1), none, none, none, none] [] (SH, s) (none, (SH, τ)) := k_X12_laysOthers_r d hJ rfl
/-! IsHeInModel.counted(II)I -/
theorem srt279 : m_srt mc279 = true := by decide +kernel
def F_X12_counted_18 (s : mG) : Option (Int32 × mG) :=
  some ((ci (-1)), s)
set_option maxRecDepth 4000 in
theorem k_X12_counted_18 {N : Nat} {xs : Nat → Int32} (d : Nat) {r : Option Value × mH} {s : mG} {τ : (Int32 × mG)} (hJ : F_X12_counted_18 s = some τ) (hC : (fun τ => r = (some (.int τ.1), (SH, τ.2))) τ) : Rn N xs (d + 7) me279 18 [none, none, none, none, none, none, none, none, none] [] (SH, s) r := by
  unfold F_X12_counted_18 at hJ
  refine Rn_sq srt279 9 1 (pc' := 19) (ls' := [none, none, none, none, none, none, none, none, none]) (st' := [(.int (ci (-1)))]) (h1 := (SH, s)) rfl ?_
  rw [← Option.some.inj hJ] at hC
  have hC : r = (some (.int (ci (-1))), (SH, s)) := hC
  subst hC
  exact Rn_ret srt279 10 rfl rfl rfl
def F_X12_counted (a1 : Int32) (a2 : Int32) (s : mG) : Option (Int32 × mG) :=
  b1 (F_X12_isGuest s a1) fun v2 =>
  if v2 = 0 then
    F_X12_counted_18 s
  else
    b1 (F_X12_isIn s a2 (ci 0) (c8 12)) fun v5 =>
    if v5 = 0 then
      F_X12_counted_18 s
    else
      b1 (F_X12_laysOthers a1 s) fun s8 =>
      b2 (F_X12_sureOf a1 s8) fun v11 s10 =>
      if a2 < 0 ∨ 14 ≤ a2.toNatClampNeg then none else
      let v13 : Int64 := (v11 * (s10.2 99 a2.toNatClampNeg))
      if (a2 + (ci 1)) < 0 ∨ 14 ≤ (a2 + (ci 1)).toNatClampNeg then none else
      let v15 : Int64 := (v13 + (((cl 1000000) - v11) * (s10.2 99 (a2 + (ci 1)).toNatClampNeg)))
      if (lg_cmp v15 (cz 0)) = 0 then
        some ((ci (-1)), s10)
      else
        if v15 = 0 then none else
        let v18 : Int32 := (((cl 1000000) * v13) / v15).toInt32
        some (v18, s10)
set_option maxRecDepth 4000 in
theorem k_X12_counted_r {N : Nat} {xs : Nat → Int32} (d : Nat) {r : Option Value × mH} {s : mG} {a1 : Int32} {a2 : Int32} {τ : (Int32 × mG)} (hJ : F_X12_counted a1 a2 s = some τ) (hC : (fun τ => r = (some (.int τ.1), (SH, τ.2))) τ) : Rn N xs (d + 7) me279 0 [some (.ref 88), some (.int a1), some (.int a2), none, none, none, none, none, none] [] (SH, s) r := by
  unfold F_X12_counted at hJ
  refine Rn_sq srt279 0 2 (pc' := 2) (ls' := [some (.ref 88), some (.int a1), some (.int a2), none, none, none, none, none, none]) (st' := [(.int a1), (.ref 88)]) (h1 := (SH, s)) rfl ?_
  obtain ⟨v2, h1, hJ⟩ := m_b1 hJ
  refine Rn_call srt279 2 rfl rfl rfl ⟨Nat.le_of_ble_eq_true rfl, Nat.le_of_ble_eq_true rfl, rfl, Nat.le_of_ble_eq_true rfl⟩ (k_X12_isGuest (d + 5) h1) (show Rn N xs (d + 7) me279 5 [some (.ref 88), some (.int a1), some (.int a2), none, none, none, none, none, none] [(.int v2)] (SH, s) r from ?_)
  refine Rn_sq srt279 3 1 (pc' := (if v2 = 0 then 18 else 8)) (ls' := [some (.ref 88), some (.int a1), some (.int a2), none, none, none, none, none, none]) (st' := []) (h1 := (SH, s)) rfl (Rn_if (fun h3 => ?_) (fun h3 => ?_))
  · replace hJ := m_ifp h3 hJ
    exact Rn_weaken (a := [none, none, none, none, none, none, none, none, none]) (b := [some (.ref 88), some (.int a1), some (.int a2), none, none, none, none, none, none]) trivial rfl (k_X12_counted_18 d hJ hC)
  · replace hJ := m_ifn h3 hJ
    refine Rn_sq srt279 4 3 (pc' := 12) (ls' := [some (.ref 88), some (.int a1), some (.int a2), none, none, none, none, none, none]) (st' := [(.int (c8 12)), (.int (ci 0)), (.int a2)]) (h1 := (SH, s)) rfl ?_
    obtain ⟨v5, h4, hJ⟩ := m_b1 hJ
    refine Rn_call srt279 7 rfl rfl rfl ⟨Nat.le_of_ble_eq_true rfl, Nat.le_of_ble_eq_true rfl, rfl, Nat.le_of_ble_eq_true rfl⟩ (k_X12_isIn (d + 6) h4) (show Rn N xs (d + 7) me279 15 [some (.ref 88), some (.int a1), some (.int a2), none, none, none, none, none, none] [(.int v5)] (SH, s) r from ?_)
    refine Rn_sq srt279 8 1 (pc' := (if v5 = 0 then 18 else 20)) (ls' := [some (.ref 88), some (.int a1), some (.int a2), none, none, none, none, none, none]) (st' := []) (h1 := (SH, s)) rfl (Rn_if (fun h6 => ?_) (fun h6 => ?_))
    · replace hJ := m_ifp h6 hJ
      exact Rn_weaken (a := [none, none, none, none, none, none, none, none, none]) (b := [some (.ref 88), some (.int a1), some (.int a2), none, none, none, none, none, none]) trivial rfl (k_X12_counted_18 d hJ hC)
    · replace hJ := m_ifn h6 hJ
      refine Rn_sq srt279 11 2 (pc' := 22) (ls' := [some (.ref 88), some (.int a1), some (.int a2), none, none, none, none, none, none]) (st' := [(.int a1), (.ref 88)]) (h1 := (SH, s)) rfl ?_
      obtain ⟨s8, h7, hJ⟩ := m_b1 hJ
      refine Rn_call srt279 13 rfl rfl rfl ⟨Nat.le_of_ble_eq_true rfl, Nat.le_of_ble_eq_true rfl, rfl, Nat.le_of_ble_eq_true rfl⟩ (k_X12_laysOthers (d) h7) (show Rn N xs (d + 7) me279 25 [some (.ref 88), some (.int a1), some (.int a2), none, none, none, none, none, none] [] (SH, s8) r from ?_)
      refine Rn_sq srt279 14 2 (pc' := 27) (ls' := [some (.ref 88), some (.int a1), some (.int a2), none, none, none, none, none, none]) (st' := [(.int a1), (.ref 88)]) (h1 := (SH, s8)) rfl ?_
      obtain ⟨v11, s10, h9, hJ⟩ := m_b2 hJ
      refine Rn_call srt279 16 rfl rfl rfl ⟨Nat.le_of_ble_eq_true rfl, Nat.le_of_ble_eq_true rfl, rfl, Nat.le_of_ble_eq_true rfl⟩ (k_X12_sureOf (d + 1) h9) (show Rn N xs (d + 7) me279 30 [some (.ref 88), some (.int a1), some (.int a2), none, none, none, none, none, none] [(.long v11)] (SH, s10) r from ?_)
      refine Rn_sq srt279 17 5 (pc' := 37) (ls' := [some (.ref 88), some (.int a1), some (.int a2), some (.long v11), none, none, none, none, none]) (st' := [(.int a2), (.ref 99), (.long v11)]) (h1 := (SH, s10)) rfl ?_
      obtain ⟨h12, hJ⟩ := m_gn hJ
      refine Rn_ev srt279 22 rfl rfl rfl (op_la sh99 h12 (k := a2.toNatClampNeg) rfl) ?_
      extract_lets +onlyGivenNames v13 at hJ
      refine Rn_sq srt279 23 11 (pc' := 55) (ls' := [some (.ref 88), some (.int a1), some (.int a2), some (.long v11), none, some (.long v13), none, none, none]) (st' := [(.int (a2 + (ci 1))), (.ref 99), (.long ((cl 1000000) - v11)), (.long v13)]) (h1 := (SH, s10)) rfl ?_
      obtain ⟨h14, hJ⟩ := m_gn hJ
      refine Rn_ev srt279 34 rfl rfl rfl (op_la sh99 h14 (k := (a2 + (ci 1)).toNatClampNeg) rfl) ?_
      extract_lets +onlyGivenNames v15 at hJ
      refine Rn_sq srt279 35 7 (pc' := (if (lg_cmp v15 (cz 0)) = 0 then 67 else 71)) (ls' := [some (.ref 88), some (.int a1), some (.int a2), some (.long v11), none, some (.long v13), none, some (.long v15), none]) (st' := []) (h1 := (SH, s10)) rfl (Rn_if (fun h16 => ?_) (fun h16 => ?_))
      · replace hJ := m_ifp h16 hJ
        refine Rn_sq srt279 42 2 (pc' := 81) (ls' := [some (.ref 88), some (.int a1), some (.int a2), some (.long v11), none, some (.long v13), none, some (.long v15), none]) (st' := [(.int (ci (-1)))]) (h1 := (SH, s10)) rfl ?_
        rw [← Option.some.inj hJ] at hC
        have hC : r = (some (.int (ci (-1))), (SH, s10)) := hC
        subst hC
        exact Rn_ret srt279 50 rfl rfl rfl
      · replace hJ := m_ifn h16 hJ
        refine Rn_sq srt279 44 4 (pc' := 79) (ls' := [some (.ref 88), some (.int a1), some (.int a2), some (.long v11), none, some (.long v13), none, some (.long v15), none]) (st' := [(.long v15), (.long ((cl 1000000) * v13))]) (h1 := (SH, s10)) rfl ?_
        obtain ⟨h17, hJ⟩ := m_gn hJ
        refine Rn_ev srt279 48 rfl rfl rfl (op_ldiv h17) ?_
        refine Rn_sq srt279 49 1 (pc' := 81) (ls' := [some (.ref 88), some (.int a1), some (.int a2), some (.long v11), none, some (.long v13), none, some (.long v15), none]) (st' := [(.int (((cl 1000000) * v13) / v15).toInt32)]) (h1 := (SH, s10)) rfl ?_
        extract_lets +onlyGivenNames v18 at hJ
        rw [← Option.some.inj hJ] at hC
        have hC : r = (some (.int (((cl 1000000) * v13) / v15).toInt32), (SH, s10)) := hC
        subst hC
        exact Rn_ret srt279 50 rfl rfl rfl
theorem k_X12_counted {N : Nat} {xs : Nat → Int32} (d : Nat) {s : mG} {a1 : Int32} {a2 : Int32} {τ : (Int32 × mG)} (hJ : F_X12_counted a1 a2 s = some τ) : Rn N xs (d + 7) me279 0 [some (.ref 88), some (.int a1), some (.int a2), none, none, none, none, none, none] [] (SH, s) (some (.int τ.1), (SH, τ.2)) := k_X12_counted_r d hJ rfl
/-! IsHeInModel.visit(II)I -/
theorem srt280 : m_srt mc280 = true := by decide +kernel
def F_X12_visit_17 (s : mG) : Option (Int32 × mG) :=
  some ((ci (-1)), s)
set_option maxRecDepth 4000 in
theorem k_X12_visit_17 {N : Nat} {xs : Nat → Int32} (d : Nat) {r : Option Value × mH} {s : mG} {τ : (Int32 × mG)} (hJ : F_X12_visit_17 s = some τ) (hC : (fun τ => r = (some (.int τ.1), (SH, τ.2))) τ) : Rn N xs (d + 6) me280 17 [none, none, none, none, none, none, none, none, none, none, none, none, none] [] (SH, s) r := by
  unfold F_X12_visit_17 at hJ
  refine Rn_sq srt280 9 1 (pc' := 18) (ls' := [none, none, none, none, none, none, none, none, none, none, none, none, none]) (st' := [(.int (ci (-1)))]) (h1 := (SH, s)) rfl ?_
  rw [← Option.some.inj hJ] at hC
  have hC : r = (some (.int (ci (-1))), (SH, s)) := hC
  subst hC
  exact Rn_ret srt280 10 rfl rfl rfl
def C_X12_visit_34 (N : Nat) (xs : Nat → Int32) (d : Nat) (r : Option Value × mH) (C : (Int32 × mG) → Prop) : ((Int32 × Int32 × Int64 × Int32 × Int64 × Int32 × mG) ⊕ (Int32 × mG)) → Prop
  | .inl v => Rn N xs (d + 6) me280 34 [some (.ref 88), some (.int v.1), some (.int v.2.1), some (.long v.2.2.1), none, some (.int v.2.2.2.1), some (.long v.2.2.2.2.1), none, some (.int v.2.2.2.2.2.1), none, none, none, none] [] (SH, v.2.2.2.2.2.2) r
  | .inr a => C a
def F_X12_visit_154 (x1 : Int32) (x2 : Int32) (x3 : Int64) (x5 : Int32) (x6 : Int64) (x8 : Int32) (s : mG) : Option ((Int32 × Int32 × Int64 × Int32 × Int64 × Int32 × mG) ⊕ (Int32 × mG)) :=
  some (Sum.inl (x1, x2, x3, x5, x6, (x8 + ci 1), s))
set_option maxRecDepth 4000 in
theorem k_X12_visit_154 {N : Nat} {xs : Nat → Int32} (d : Nat) {r : Option Value × mH} {s : mG} {x1 : Int32} {x2 : Int32} {x3 : Int64} {x5 : Int32} {x6 : Int64} {x8 : Int32} {τ : ((Int32 × Int32 × Int64 × Int32 × Int64 × Int32 × mG) ⊕ (Int32 × mG))} (hJ : F_X12_visit_154 x1 x2 x3 x5 x6 x8 s = some τ) (hC : (C_X12_visit_34 N xs d r (fun τ => r = (some (.int τ.1), (SH, τ.2)))) τ) : Rn N xs (d + 6) me280 154 [some (.ref 88), some (.int x1), some (.int x2), some (.long x3), none, some (.int x5), some (.long x6), none, some (.int x8), none, none, none, none] [] (SH, s) r := by
  unfold F_X12_visit_154 at hJ
  refine Rn_sq srt280 95 2 (pc' := 34) (ls' := [some (.ref 88), some (.int x1), some (.int x2), some (.long x3), none, some (.int x5), some (.long x6), none, some (.int (x8 + ci 1)), none, none, none, none]) (st' := []) (h1 := (SH, s)) rfl ?_
  rw [← Option.some.inj hJ] at hC
  exact hC
def F_X12_visit_B34 (x1 : Int32) (x2 : Int32) (x3 : Int64) (x5 : Int32) (x6 : Int64) (x8 : Int32) (s : mG) : Option ((Int32 × Int32 × Int64 × Int32 × Int64 × Int32 × mG) ⊕ (Int32 × mG)) :=
  if (c8 23) ≤ x8 then
    if x2 = 0 then
      some (Sum.inr (x5, s))
    else
      some (Sum.inr (x6.toInt32, s))
  else
    if ((c8 27) + x1) < 0 ∨ 1894 ≤ ((c8 27) + x1).toNatClampNeg then none else
    b2 (F_X12_saysIn (c8 20) x1 ((s.1 89 0) + x8) (s.1 89 113) (s.1 89 ((c8 27) + x1).toNatClampNeg) s) fun v15 s14 =>
    if ((c8 27) + x1) < 0 ∨ 1894 ≤ ((c8 27) + x1).toNatClampNeg then none else
    b2 (F_X12_saysIn (c8 21) x1 ((s14.1 89 0) + x8) (s14.1 89 113) (s14.1 89 ((c8 27) + x1).toNatClampNeg) s14) fun v19 s18 =>
    let v20 : Int64 := ((x3 - ((x3 * v15.toInt64) / (cl 1000))) + ((((cl 1000000) - x3) * v19.toInt64) / (cl 1000)))
    if 0 < (lg_cmp v20 x6) then
      F_X12_visit_154 x1 x2 v20 (x8 + (ci 1)) v20 x8 s18
    else
      F_X12_visit_154 x1 x2 v20 x5 x6 x8 s18
set_option maxRecDepth 4000 in
theorem k_X12_visit_B34 {N : Nat} {xs : Nat → Int32} (d : Nat) {r : Option Value × mH} {s : mG} {x1 : Int32} {x2 : Int32} {x3 : Int64} {x5 : Int32} {x6 : Int64} {x8 : Int32} {τ : ((Int32 × Int32 × Int64 × Int32 × Int64 × Int32 × mG) ⊕ (Int32 × mG))} (hJ : F_X12_visit_B34 x1 x2 x3 x5 x6 x8 s = some τ) (hC : (C_X12_visit_34 N xs d r (fun τ => r = (some (.int τ.1), (SH, τ.2)))) τ) : Rn N xs (d + 6) me280 34 [some (.ref 88), some (.int x1), some (.int x2), some (.long x3), none, some (.int x5), some (.long x6), none, some (.int x8), none, none, none, none] [] (SH, s) r := by
  unfold F_X12_visit_B34 at hJ
  refine Rn_sq srt280 21 3 (pc' := (if (c8 23) ≤ x8 then 160 else 41)) (ls' := [some (.ref 88), some (.int x1), some (.int x2), some (.long x3), none, some (.int x5), some (.long x6), none, some (.int x8), none, none, none, none]) (st' := []) (h1 := (SH, s)) rfl (Rn_if (fun h10 => ?_) (fun h10 => ?_))
  · replace hJ := m_ifp h10 hJ
    refine Rn_sq srt280 97 2 (pc' := (if x2 = 0 then 164 else 169)) (ls' := [some (.ref 88), some (.int x1), some (.int x2), some (.long x3), none, some (.int x5), some (.long x6), none, some (.int x8), none, none, none, none]) (st' := []) (h1 := (SH, s)) rfl (Rn_if (fun h11 => ?_) (fun h11 => ?_))
    · replace hJ := m_ifp h11 hJ
      refine Rn_sq srt280 99 2 (pc' := 172) (ls' := [some (.ref 88), some (.int x1), some (.int x2), some (.long x3), none, some (.int x5), some (.long x6), none, some (.int x8), none, none, none, none]) (st' := [(.int x5)]) (h1 := (SH, s)) rfl ?_
      rw [← Option.some.inj hJ] at hC
      have hC : r = (some (.int x5), (SH, s)) := hC
      subst hC
      exact Rn_ret srt280 103 rfl rfl rfl
    · replace hJ := m_ifn h11 hJ
      refine Rn_sq srt280 101 2 (pc' := 172) (ls' := [some (.ref 88), some (.int x1), some (.int x2), some (.long x3), none, some (.int x5), some (.long x6), none, some (.int x8), none, none, none, none]) (st' := [(.int x6.toInt32)]) (h1 := (SH, s)) rfl ?_
      rw [← Option.some.inj hJ] at hC
      have hC : r = (some (.int x6.toInt32), (SH, s)) := hC
      subst hC
      exact Rn_ret srt280 103 rfl rfl rfl
  · replace hJ := m_ifn h10 hJ
    refine Rn_sq srt280 24 6 (pc' := 50) (ls' := [some (.ref 88), some (.int x1), some (.int x2), some (.long x3), none, some (.int x5), some (.long x6), none, some (.int x8), none, none, none, none]) (st' := [(.int (ci 0)), (.ref 89), (.int x1), (.int (c8 20)), (.ref 88)]) (h1 := (SH, s)) rfl ?_
    refine Rn_ev srt280 30 rfl rfl rfl (op_ia sh89 (by decide) (k := 0) rfl) ?_
    refine Rn_sq srt280 31 5 (pc' := 60) (ls' := [some (.ref 88), some (.int x1), some (.int x2), some (.long x3), none, some (.int x5), some (.long x6), none, some (.int x8), none, none, none, none]) (st' := [(.int (c8 113)), (.ref 89), (.int ((s.1 89 0) + x8)), (.int x1), (.int (c8 20)), (.ref 88)]) (h1 := (SH, s)) rfl ?_
    refine Rn_ev srt280 36 rfl rfl rfl (op_ia sh89 (by decide) (k := 113) rfl) ?_
    refine Rn_sq srt280 37 5 (pc' := 69) (ls' := [some (.ref 88), some (.int x1), some (.int x2), some (.long x3), none, some (.int x5), some (.long x6), none, some (.int x8), none, none, none, none]) (st' := [(.int ((c8 27) + x1)), (.ref 89), (.int (s.1 89 113)), (.int ((s.1 89 0) + x8)), (.int x1), (.int (c8 20)), (.ref 88)]) (h1 := (SH, s)) rfl ?_
    obtain ⟨h12, hJ⟩ := m_gn hJ
    refine Rn_ev srt280 42 rfl rfl rfl (op_ia sh89 h12 (k := ((c8 27) + x1).toNatClampNeg) rfl) ?_
    obtain ⟨v15, s14, h13, hJ⟩ := m_b2 hJ
    refine Rn_call srt280 43 rfl rfl rfl ⟨Nat.le_of_ble_eq_true rfl, Nat.le_of_ble_eq_true rfl, rfl, Nat.le_of_ble_eq_true rfl⟩ (k_X12_saysIn (d + 2) h13) (show Rn N xs (d + 6) me280 73 [some (.ref 88), some (.int x1), some (.int x2), some (.long x3), none, some (.int x5), some (.long x6), none, some (.int x8), none, none, none, none] [(.int v15)] (SH, s14) r from ?_)
    refine Rn_sq srt280 44 8 (pc' := 85) (ls' := [some (.ref 88), some (.int x1), some (.int x2), some (.long x3), none, some (.int x5), some (.long x6), none, some (.int x8), some (.long v15.toInt64), none, none, none]) (st' := [(.int (ci 0)), (.ref 89), (.int x1), (.int (c8 21)), (.ref 88)]) (h1 := (SH, s14)) rfl ?_
    refine Rn_ev srt280 52 rfl rfl rfl (op_ia sh89 (by decide) (k := 0) rfl) ?_
    refine Rn_sq srt280 53 5 (pc' := 95) (ls' := [some (.ref 88), some (.int x1), some (.int x2), some (.long x3), none, some (.int x5), some (.long x6), none, some (.int x8), some (.long v15.toInt64), none, none, none]) (st' := [(.int (c8 113)), (.ref 89), (.int ((s14.1 89 0) + x8)), (.int x1), (.int (c8 21)), (.ref 88)]) (h1 := (SH, s14)) rfl ?_
    refine Rn_ev srt280 58 rfl rfl rfl (op_ia sh89 (by decide) (k := 113) rfl) ?_
    refine Rn_sq srt280 59 5 (pc' := 104) (ls' := [some (.ref 88), some (.int x1), some (.int x2), some (.long x3), none, some (.int x5), some (.long x6), none, some (.int x8), some (.long v15.toInt64), none, none, none]) (st' := [(.int ((c8 27) + x1)), (.ref 89), (.int (s14.1 89 113)), (.int ((s14.1 89 0) + x8)), (.int x1), (.int (c8 21)), (.ref 88)]) (h1 := (SH, s14)) rfl ?_
    obtain ⟨h16, hJ⟩ := m_gn hJ
    refine Rn_ev srt280 64 rfl rfl rfl (op_ia sh89 h16 (k := ((c8 27) + x1).toNatClampNeg) rfl) ?_
    obtain ⟨v19, s18, h17, hJ⟩ := m_b2 hJ
    refine Rn_call srt280 65 rfl rfl rfl ⟨Nat.le_of_ble_eq_true rfl, Nat.le_of_ble_eq_true rfl, rfl, Nat.le_of_ble_eq_true rfl⟩ (k_X12_saysIn (d + 2) h17) (show Rn N xs (d + 6) me280 108 [some (.ref 88), some (.int x1), some (.int x2), some (.long x3), none, some (.int x5), some (.long x6), none, some (.int x8), some (.long v15.toInt64), none, none, none] [(.int v19)] (SH, s18) r from ?_)
    refine Rn_sq srt280 66 7 (pc' := 119) (ls' := [some (.ref 88), some (.int x1), some (.int x2), some (.long x3), none, some (.int x5), some (.long x6), none, some (.int x8), some (.long v15.toInt64), none, some (.long v19.toInt64), none]) (st' := [(.long (cl 1000)), (.long (x3 * v15.toInt64)), (.long x3)]) (h1 := (SH, s18)) rfl ?_
    refine Rn_ev srt280 73 rfl rfl rfl (op_ldiv (by decide)) ?_
    refine Rn_sq srt280 74 7 (pc' := 132) (ls' := [some (.ref 88), some (.int x1), some (.int x2), some (.long x3), none, some (.int x5), some (.long x6), none, some (.int x8), some (.long v15.toInt64), none, some (.long v19.toInt64), none]) (st' := [(.long (cl 1000)), (.long (((cl 1000000) - x3) * v19.toInt64)), (.long (x3 - ((x3 * v15.toInt64) / (cl 1000))))]) (h1 := (SH, s18)) rfl ?_
    refine Rn_ev srt280 81 rfl rfl rfl (op_ldiv (by decide)) ?_
    extract_lets +onlyGivenNames v20 at hJ
    refine Rn_sq srt280 82 6 (pc' := (if 0 < (lg_cmp v20 x6) then 145 else 142)) (ls' := [some (.ref 88), some (.int x1), some (.int x2), some (.long v20), none, some (.int x5), some (.long x6), none, some (.int x8), some (.long v15.toInt64), none, some (.long v19.toInt64), none]) (st' := []) (h1 := (SH, s18)) rfl (Rn_if (fun h21 => ?_) (fun h21 => ?_))
    · replace hJ := m_ifp h21 hJ
      refine Rn_sq srt280 89 6 (pc' := 154) (ls' := [some (.ref 88), some (.int x1), some (.int x2), some (.long v20), none, some (.int (x8 + (ci 1))), some (.long v20), none, some (.int x8), some (.long v15.toInt64), none, some (.long v19.toInt64), none]) (st' := []) (h1 := (SH, s18)) rfl ?_
      exact Rn_weaken (a := [some (.ref 88), some (.int x1), some (.int x2), some (.long v20), none, some (.int (x8 + (ci 1))), some (.long v20), none, some (.int x8), none, none, none, none]) (b := [some (.ref 88), some (.int x1), some (.int x2), some (.long v20), none, some (.int (x8 + (ci 1))), some (.long v20), none, some (.int x8), some (.long v15.toInt64), none, some (.long v19.toInt64), none]) (And.intro rfl (And.intro rfl (And.intro rfl (And.intro rfl (And.intro rfl (And.intro rfl (And.intro rfl trivial))))))) rfl (k_X12_visit_154 d hJ hC)
    · replace hJ := m_ifn h21 hJ
      refine Rn_sq srt280 88 1 (pc' := 154) (ls' := [some (.ref 88), some (.int x1), some (.int x2), some (.long v20), none, some (.int x5), some (.long x6), none, some (.int x8), some (.long v15.toInt64), none, some (.long v19.toInt64), none]) (st' := []) (h1 := (SH, s18)) rfl ?_
      exact Rn_weaken (a := [some (.ref 88), some (.int x1), some (.int x2), some (.long v20), none, some (.int x5), some (.long x6), none, some (.int x8), none, none, none, none]) (b := [some (.ref 88), some (.int x1), some (.int x2), some (.long v20), none, some (.int x5), some (.long x6), none, some (.int x8), some (.long v15.toInt64), none, some (.long v19.toInt64), none]) (And.intro rfl (And.intro rfl (And.intro rfl (And.intro rfl (And.intro rfl (And.intro rfl (And.intro rfl trivial))))))) rfl (k_X12_visit_154 d hJ hC)
def F_X12_visit_L34 (x1 : Int32) (x2 : Int32) (x3 : Int64) (x5 : Int32) (x6 : Int64) (x8 : Int32) (s : mG) : Option (Int32 × mG) := whl (fun (v : (Int32 × Int32 × Int64 × Int32 × Int64 × Int32 × mG)) => F_X12_visit_B34 v.1 v.2.1 v.2.2.1 v.2.2.2.1 v.2.2.2.2.1 v.2.2.2.2.2.1 v.2.2.2.2.2.2) (x1, x2, x3, x5, x6, x8, s)
theorem k_X12_visit_L34 {N : Nat} {xs : Nat → Int32} (d : Nat) {r : Option Value × mH} {s : mG} {x1 : Int32} {x2 : Int32} {x3 : Int64} {x5 : Int32} {x6 : Int64} {x8 : Int32} {τ : (Int32 × mG)} (hJ : F_X12_visit_L34 x1 x2 x3 x5 x6 x8 s = some τ) (hC : (fun τ => r = (some (.int τ.1), (SH, τ.2))) τ) : Rn N xs (d + 6) me280 34 [some (.ref 88), some (.int x1), some (.int x2), some (.long x3), none, some (.int x5), some (.long x6), none, some (.int x8), none, none, none, none] [] (SH, s) r :=
  whl_link (P := fun (v : (Int32 × Int32 × Int64 × Int32 × Int64 × Int32 × mG)) => Rn N xs (d + 6) me280 34 [some (.ref 88), some (.int v.1), some (.int v.2.1), some (.long v.2.2.1), none, some (.int v.2.2.2.1), some (.long v.2.2.2.2.1), none, some (.int v.2.2.2.2.2.1), none, none, none, none] [] (SH, v.2.2.2.2.2.2) r) (C := (C_X12_visit_34 N xs d r (fun τ => r = (some (.int τ.1), (SH, τ.2))))) (fun v τ h1 h2 => k_X12_visit_B34 d h1 h2) (fun _ h => h) (fun _ h => h) _ _ hJ hC
def F_X12_visit (a1 : Int32) (a2 : Int32) (s : mG) : Option (Int32 × mG) :=
  b1 (F_X12_isGuest s a1) fun v2 =>
  if v2 = 0 then
    F_X12_visit_17 s
  else
    b1 (F_X12_isIn s a2 (ci 0) (ci 1)) fun v5 =>
    if v5 = 0 then
      F_X12_visit_17 s
    else
      b2 (F_X12_sureOf a1 s) fun v9 s8 =>
      F_X12_visit_L34 a1 a2 v9 (ci 0) v9 (ci 0) s8
set_option maxRecDepth 4000 in
theorem k_X12_visit_r {N : Nat} {xs : Nat → Int32} (d : Nat) {r : Option Value × mH} {s : mG} {a1 : Int32} {a2 : Int32} {τ : (Int32 × mG)} (hJ : F_X12_visit a1 a2 s = some τ) (hC : (fun τ => r = (some (.int τ.1), (SH, τ.2))) τ) : Rn N xs (d + 6) me280 0 [some (.ref 88), some (.int a1), some (.int a2), none, none, none, none, none, none, none, none, none, none] [] (SH, s) r := by
  unfold F_X12_visit at hJ
  refine Rn_sq srt280 0 2 (pc' := 2) (ls' := [some (.ref 88), some (.int a1), some (.int a2), none, none, none, none, none, none, none, none, none, none]) (st' := [(.int a1), (.ref 88)]) (h1 := (SH, s)) rfl ?_
  obtain ⟨v2, h1, hJ⟩ := m_b1 hJ
  refine Rn_call srt280 2 rfl rfl rfl ⟨Nat.le_of_ble_eq_true rfl, Nat.le_of_ble_eq_true rfl, rfl, Nat.le_of_ble_eq_true rfl⟩ (k_X12_isGuest (d + 4) h1) (show Rn N xs (d + 6) me280 5 [some (.ref 88), some (.int a1), some (.int a2), none, none, none, none, none, none, none, none, none, none] [(.int v2)] (SH, s) r from ?_)
  refine Rn_sq srt280 3 1 (pc' := (if v2 = 0 then 17 else 8)) (ls' := [some (.ref 88), some (.int a1), some (.int a2), none, none, none, none, none, none, none, none, none, none]) (st' := []) (h1 := (SH, s)) rfl (Rn_if (fun h3 => ?_) (fun h3 => ?_))
  · replace hJ := m_ifp h3 hJ
    exact Rn_weaken (a := [none, none, none, none, none, none, none, none, none, none, none, none, none]) (b := [some (.ref 88), some (.int a1), some (.int a2), none, none, none, none, none, none, none, none, none, none]) trivial rfl (k_X12_visit_17 d hJ hC)
  · replace hJ := m_ifn h3 hJ
    refine Rn_sq srt280 4 3 (pc' := 11) (ls' := [some (.ref 88), some (.int a1), some (.int a2), none, none, none, none, none, none, none, none, none, none]) (st' := [(.int (ci 1)), (.int (ci 0)), (.int a2)]) (h1 := (SH, s)) rfl ?_
    obtain ⟨v5, h4, hJ⟩ := m_b1 hJ
    refine Rn_call srt280 7 rfl rfl rfl ⟨Nat.le_of_ble_eq_true rfl, Nat.le_of_ble_eq_true rfl, rfl, Nat.le_of_ble_eq_true rfl⟩ (k_X12_isIn (d + 5) h4) (show Rn N xs (d + 6) me280 14 [some (.ref 88), some (.int a1), some (.int a2), none, none, none, none, none, none, none, none, none, none] [(.int v5)] (SH, s) r from ?_)
    refine Rn_sq srt280 8 1 (pc' := (if v5 = 0 then 17 else 19)) (ls' := [some (.ref 88), some (.int a1), some (.int a2), none, none, none, none, none, none, none, none, none, none]) (st' := []) (h1 := (SH, s)) rfl (Rn_if (fun h6 => ?_) (fun h6 => ?_))
    · replace hJ := m_ifp h6 hJ
      exact Rn_weaken (a := [none, none, none, none, none, none, none, none, none, none, none, none, none]) (b := [some (.ref 88), some (.int a1), some (.int a2), none, none, none, none, none, none, none, none, none, none]) trivial rfl (k_X12_visit_17 d hJ hC)
    · replace hJ := m_ifn h6 hJ
      refine Rn_sq srt280 11 2 (pc' := 21) (ls' := [some (.ref 88), some (.int a1), some (.int a2), none, none, none, none, none, none, none, none, none, none]) (st' := [(.int a1), (.ref 88)]) (h1 := (SH, s)) rfl ?_
      obtain ⟨v9, s8, h7, hJ⟩ := m_b2 hJ
      refine Rn_call srt280 13 rfl rfl rfl ⟨Nat.le_of_ble_eq_true rfl, Nat.le_of_ble_eq_true rfl, rfl, Nat.le_of_ble_eq_true rfl⟩ (k_X12_sureOf (d) h7) (show Rn N xs (d + 6) me280 24 [some (.ref 88), some (.int a1), some (.int a2), none, none, none, none, none, none, none, none, none, none] [(.long v9)] (SH, s8) r from ?_)
      refine Rn_sq srt280 14 7 (pc' := 34) (ls' := [some (.ref 88), some (.int a1), some (.int a2), some (.long v9), none, some (.int (ci 0)), some (.long v9), none, some (.int (ci 0)), none, none, none, none]) (st' := []) (h1 := (SH, s8)) rfl ?_
      exact (k_X12_visit_L34 d hJ hC)
theorem k_X12_visit {N : Nat} {xs : Nat → Int32} (d : Nat) {s : mG} {a1 : Int32} {a2 : Int32} {τ : (Int32 × mG)} (hJ : F_X12_visit a1 a2 s = some τ) : Rn N xs (d + 6) me280 0 [some (.ref 88), some (.int a1), some (.int a2), none, none, none, none, none, none, none, none, none, none] [] (SH, s) (some (.int τ.1), (SH, τ.2)) := k_X12_visit_r d hJ rfl
/-! IsHeInModel.movesIn(I)I -/
theorem srt281 : m_srt mc281 = true := by decide +kernel
def C_X12_movesIn_4 (N : Nat) (xs : Nat → Int32) (d : Nat) (r : Option Value × mH) (C : (Int32 × mG) → Prop) : ((Int32 × Int32 × Int32 × mG) ⊕ (Int32 × mG)) → Prop
  | .inl v => Rn N xs (d + 4) me281 4 [some (.ref 88), some (.int v.1), some (.int v.2.1), some (.int v.2.2.1)] [] (SH, v.2.2.2) r
  | .inr a => C a
def F_X12_movesIn_36 (x1 : Int32) (x3 : Int32) (y0 : Int32) (y2 : Int32) (s : mG) : Option ((Int32 × Int32 × Int32 × mG) ⊕ (Int32 × mG)) :=
  if ((c8 27) + x3) < 0 ∨ 1894 ≤ ((c8 27) + x3).toNatClampNeg then none else
  b2 (F_X12_saysIn y2 x3 x1 (s.1 89 113) (s.1 89 ((c8 27) + x3).toNatClampNeg) s) fun v7 s6 =>
  some (Sum.inl (x1, (y0 + v7), (x3 + ci 1), s6))
set_option maxRecDepth 4000 in
theorem k_X12_movesIn_36 {N : Nat} {xs : Nat → Int32} (d : Nat) {r : Option Value × mH} {s : mG} {x1 : Int32} {x3 : Int32} {y0 : Int32} {y2 : Int32} {τ : ((Int32 × Int32 × Int32 × mG) ⊕ (Int32 × mG))} (hJ : F_X12_movesIn_36 x1 x3 y0 y2 s = some τ) (hC : (C_X12_movesIn_4 N xs d r (fun τ => r = (some (.int τ.1), (SH, τ.2)))) τ) : Rn N xs (d + 4) me281 36 [some (.ref 88), some (.int x1), none, some (.int x3)] [(.int y2), (.ref 88), (.int y0)] (SH, s) r := by
  unfold F_X12_movesIn_36 at hJ
  refine Rn_sq srt281 23 5 (pc' := 44) (ls' := [some (.ref 88), some (.int x1), none, some (.int x3)]) (st' := [(.int (c8 113)), (.ref 89), (.int x1), (.int x3), (.int y2), (.ref 88), (.int y0)]) (h1 := (SH, s)) rfl ?_
  refine Rn_ev srt281 28 rfl rfl rfl (op_ia sh89 (by decide) (k := 113) rfl) ?_
  refine Rn_sq srt281 29 5 (pc' := 53) (ls' := [some (.ref 88), some (.int x1), none, some (.int x3)]) (st' := [(.int ((c8 27) + x3)), (.ref 89), (.int (s.1 89 113)), (.int x1), (.int x3), (.int y2), (.ref 88), (.int y0)]) (h1 := (SH, s)) rfl ?_
  obtain ⟨h4, hJ⟩ := m_gn hJ
  refine Rn_ev srt281 34 rfl rfl rfl (op_ia sh89 h4 (k := ((c8 27) + x3).toNatClampNeg) rfl) ?_
  obtain ⟨v7, s6, h5, hJ⟩ := m_b2 hJ
  refine Rn_call srt281 35 rfl rfl rfl ⟨Nat.le_of_ble_eq_true rfl, Nat.le_of_ble_eq_true rfl, rfl, Nat.le_of_ble_eq_true rfl⟩ (k_X12_saysIn (d) h5) (show Rn N xs (d + 4) me281 57 [some (.ref 88), some (.int x1), none, some (.int x3)] [(.int v7), (.int y0)] (SH, s6) r from ?_)
  refine Rn_sq srt281 36 4 (pc' := 4) (ls' := [some (.ref 88), some (.int x1), some (.int (y0 + v7)), some (.int (x3 + ci 1))]) (st' := []) (h1 := (SH, s6)) rfl ?_
  rw [← Option.some.inj hJ] at hC
  exact hC
def F_X12_movesIn_B4 (x1 : Int32) (x2 : Int32) (x3 : Int32) (s : mG) : Option ((Int32 × Int32 × Int32 × mG) ⊕ (Int32 × mG)) :=
  if (s.1 89 112) ≤ x3 then
    some (Sum.inr (x2, s))
  else
    if ((ci 3) + x3) < 0 ∨ 1894 ≤ ((ci 3) + x3).toNatClampNeg then none else
    if (s.1 89 ((ci 3) + x3).toNatClampNeg) = (ci 1) then
      F_X12_movesIn_36 x1 x3 x2 (c8 21) s
    else
      F_X12_movesIn_36 x1 x3 x2 (c8 20) s
set_option maxRecDepth 4000 in
theorem k_X12_movesIn_B4 {N : Nat} {xs : Nat → Int32} (d : Nat) {r : Option Value × mH} {s : mG} {x1 : Int32} {x2 : Int32} {x3 : Int32} {τ : ((Int32 × Int32 × Int32 × mG) ⊕ (Int32 × mG))} (hJ : F_X12_movesIn_B4 x1 x2 x3 s = some τ) (hC : (C_X12_movesIn_4 N xs d r (fun τ => r = (some (.int τ.1), (SH, τ.2)))) τ) : Rn N xs (d + 4) me281 4 [some (.ref 88), some (.int x1), some (.int x2), some (.int x3)] [] (SH, s) r := by
  unfold F_X12_movesIn_B4 at hJ
  refine Rn_sq srt281 4 4 (pc' := 11) (ls' := [some (.ref 88), some (.int x1), some (.int x2), some (.int x3)]) (st' := [(.int (c8 112)), (.ref 89), (.int x3)]) (h1 := (SH, s)) rfl ?_
  refine Rn_ev srt281 8 rfl rfl rfl (op_ia sh89 (by decide) (k := 112) rfl) ?_
  refine Rn_sq srt281 9 1 (pc' := (if (s.1 89 112) ≤ x3 then 65 else 15)) (ls' := [some (.ref 88), some (.int x1), some (.int x2), some (.int x3)]) (st' := []) (h1 := (SH, s)) rfl (Rn_if (fun h1 => ?_) (fun h1 => ?_))
  · replace hJ := m_ifp h1 hJ
    refine Rn_sq srt281 40 1 (pc' := 66) (ls' := [some (.ref 88), some (.int x1), some (.int x2), some (.int x3)]) (st' := [(.int x2)]) (h1 := (SH, s)) rfl ?_
    rw [← Option.some.inj hJ] at hC
    have hC : r = (some (.int x2), (SH, s)) := hC
    subst hC
    exact Rn_ret srt281 41 rfl rfl rfl
  · replace hJ := m_ifn h1 hJ
    refine Rn_sq srt281 10 7 (pc' := 24) (ls' := [some (.ref 88), some (.int x1), some (.int x2), some (.int x3)]) (st' := [(.int ((ci 3) + x3)), (.ref 89), (.ref 88), (.int x2)]) (h1 := (SH, s)) rfl ?_
    obtain ⟨h2, hJ⟩ := m_gn hJ
    refine Rn_ev srt281 17 rfl rfl rfl (op_ia sh89 h2 (k := ((ci 3) + x3).toNatClampNeg) rfl) ?_
    refine Rn_sq srt281 18 2 (pc' := (if (s.1 89 ((ci 3) + x3).toNatClampNeg) = (ci 1) then 29 else 34)) (ls' := [some (.ref 88), some (.int x1), some (.int x2), some (.int x3)]) (st' := [(.ref 88), (.int x2)]) (h1 := (SH, s)) rfl (Rn_if (fun h3 => ?_) (fun h3 => ?_))
    · replace hJ := m_ifp h3 hJ
      refine Rn_sq srt281 20 2 (pc' := 36) (ls' := [some (.ref 88), some (.int x1), some (.int x2), some (.int x3)]) (st' := [(.int (c8 21)), (.ref 88), (.int x2)]) (h1 := (SH, s)) rfl ?_
      exact Rn_weaken (a := [some (.ref 88), some (.int x1), none, some (.int x3)]) (b := [some (.ref 88), some (.int x1), some (.int x2), some (.int x3)]) (And.intro rfl (And.intro rfl (And.intro rfl trivial))) rfl (k_X12_movesIn_36 d hJ hC)
    · replace hJ := m_ifn h3 hJ
      refine Rn_sq srt281 22 1 (pc' := 36) (ls' := [some (.ref 88), some (.int x1), some (.int x2), some (.int x3)]) (st' := [(.int (c8 20)), (.ref 88), (.int x2)]) (h1 := (SH, s)) rfl ?_
      exact Rn_weaken (a := [some (.ref 88), some (.int x1), none, some (.int x3)]) (b := [some (.ref 88), some (.int x1), some (.int x2), some (.int x3)]) (And.intro rfl (And.intro rfl (And.intro rfl trivial))) rfl (k_X12_movesIn_36 d hJ hC)
def F_X12_movesIn_L4 (x1 : Int32) (x2 : Int32) (x3 : Int32) (s : mG) : Option (Int32 × mG) := whl (fun (v : (Int32 × Int32 × Int32 × mG)) => F_X12_movesIn_B4 v.1 v.2.1 v.2.2.1 v.2.2.2) (x1, x2, x3, s)
theorem k_X12_movesIn_L4 {N : Nat} {xs : Nat → Int32} (d : Nat) {r : Option Value × mH} {s : mG} {x1 : Int32} {x2 : Int32} {x3 : Int32} {τ : (Int32 × mG)} (hJ : F_X12_movesIn_L4 x1 x2 x3 s = some τ) (hC : (fun τ => r = (some (.int τ.1), (SH, τ.2))) τ) : Rn N xs (d + 4) me281 4 [some (.ref 88), some (.int x1), some (.int x2), some (.int x3)] [] (SH, s) r :=
  whl_link (P := fun (v : (Int32 × Int32 × Int32 × mG)) => Rn N xs (d + 4) me281 4 [some (.ref 88), some (.int v.1), some (.int v.2.1), some (.int v.2.2.1)] [] (SH, v.2.2.2) r) (C := (C_X12_movesIn_4 N xs d r (fun τ => r = (some (.int τ.1), (SH, τ.2))))) (fun v τ h1 h2 => k_X12_movesIn_B4 d h1 h2) (fun _ h => h) (fun _ h => h) _ _ hJ hC
def F_X12_movesIn (a1 : Int32) (s : mG) : Option (Int32 × mG) :=
  F_X12_movesIn_L4 a1 (ci 0) (ci 0) s
set_option maxRecDepth 4000 in
theorem k_X12_movesIn_r {N : Nat} {xs : Nat → Int32} (d : Nat) {r : Option Value × mH} {s : mG} {a1 : Int32} {τ : (Int32 × mG)} (hJ : F_X12_movesIn a1 s = some τ) (hC : (fun τ => r = (some (.int τ.1), (SH, τ.2))) τ) : Rn N xs (d + 4) me281 0 [some (.ref 88), some (.int a1), none, none] [] (SH, s) r := by
  unfold F_X12_movesIn at hJ
  refine Rn_sq srt281 0 4 (pc' := 4) (ls' := [some (.ref 88), some (.int a1), some (.int (ci 0)), some (.int (ci 0))]) (st' := []) (h1 := (SH, s)) rfl ?_
  exact (k_X12_movesIn_L4 d hJ hC)
theorem k_X12_movesIn {N : Nat} {xs : Nat → Int32} (d : Nat) {s : mG} {a1 : Int32} {τ : (Int32 × mG)} (hJ : F_X12_movesIn a1 s = some τ) : Rn N xs (d + 4) me281 0 [some (.ref 88), some (.int a1), none, none] [] (SH, s) (some (.int τ.1), (SH, τ.2)) := k_X12_movesIn_r d hJ rfl
/-! IsHeInModel.expect()I -/
theorem srt282 : m_srt mc282 = true := by decide +kernel
def F_X12_expect (s : mG) : Option (Int32 × mG) :=
  b2 (F_X12_movesIn (s.1 89 0) s) fun v3 s2 =>
  some ((v3 / (c16 1000)), s2)
set_option maxRecDepth 4000 in
theorem k_X12_expect_r {N : Nat} {xs : Nat → Int32} (d : Nat) {r : Option Value × mH} {s : mG} {τ : (Int32 × mG)} (hJ : F_X12_expect s = some τ) (hC : (fun τ => r = (some (.int τ.1), (SH, τ.2))) τ) : Rn N xs (d + 5) me282 0 [some (.ref 88)] [] (SH, s) r := by
  unfold F_X12_expect at hJ
  refine Rn_sq srt282 0 4 (pc' := 6) (ls' := [some (.ref 88)]) (st' := [(.int (ci 0)), (.ref 89), (.ref 88)]) (h1 := (SH, s)) rfl ?_
  refine Rn_ev srt282 4 rfl rfl rfl (op_ia sh89 (by decide) (k := 0) rfl) ?_
  obtain ⟨v3, s2, h1, hJ⟩ := m_b2 hJ
  refine Rn_call srt282 5 rfl rfl rfl ⟨Nat.le_of_ble_eq_true rfl, Nat.le_of_ble_eq_true rfl, rfl, Nat.le_of_ble_eq_true rfl⟩ (k_X12_movesIn (d) h1) (show Rn N xs (d + 5) me282 10 [some (.ref 88)] [(.int v3)] (SH, s2) r from ?_)
  refine Rn_sq srt282 6 1 (pc' := 13) (ls' := [some (.ref 88)]) (st' := [(.int (c16 1000)), (.int v3)]) (h1 := (SH, s2)) rfl ?_
  refine Rn_ev srt282 7 rfl rfl rfl (op_idiv (by decide)) ?_
  rw [← Option.some.inj hJ] at hC
  have hC : r = (some (.int (v3 / (c16 1000))), (SH, s2)) := hC
  subst hC
  exact Rn_ret srt282 8 rfl rfl rfl
theorem k_X12_expect {N : Nat} {xs : Nat → Int32} (d : Nat) {s : mG} {τ : (Int32 × mG)} (hJ : F_X12_expect s = some τ) : Rn N xs (d + 5) me282 0 [some (.ref 88)] [] (SH, s) (some (.int τ.1), (SH, τ.2)) := k_X12_expect_r d hJ rfl
/-! IsHeInModel.busy(I)I -/
theorem srt283 : m_srt mc283 = true := by decide +kernel
def C_X12_busy_29 (N : Nat) (xs : Nat → Int32) (d : Nat) (r : Option Value × mH) (C : (Int32 × mG) → Prop) : ((Int32 × Int32 × Int32 × Int32 × mG) ⊕ (Int32 × mG)) → Prop
  | .inl v => Rn N xs (d + 5) me283 29 [some (.ref 88), some (.int v.1), some (.int v.2.1), some (.int v.2.2.1), some (.int v.2.2.2.1)] [] (SH, v.2.2.2.2) r
  | .inr a => C a
def F_X12_busy_57 (x1 : Int32) (x2 : Int32) (x3 : Int32) (x4 : Int32) (s : mG) : Option ((Int32 × Int32 × Int32 × Int32 × mG) ⊕ (Int32 × mG)) :=
  some (Sum.inl (x1, x2, x3, (x4 + ci 1), s))
set_option maxRecDepth 4000 in
theorem k_X12_busy_57 {N : Nat} {xs : Nat → Int32} (d : Nat) {r : Option Value × mH} {s : mG} {x1 : Int32} {x2 : Int32} {x3 : Int32} {x4 : Int32} {τ : ((Int32 × Int32 × Int32 × Int32 × mG) ⊕ (Int32 × mG))} (hJ : F_X12_busy_57 x1 x2 x3 x4 s = some τ) (hC : (C_X12_busy_29 N xs d r (fun τ => r = (some (.int τ.1), (SH, τ.2)))) τ) : Rn N xs (d + 5) me283 57 [some (.ref 88), some (.int x1), some (.int x2), some (.int x3), some (.int x4)] [] (SH, s) r := by
  unfold F_X12_busy_57 at hJ
  refine Rn_sq srt283 36 2 (pc' := 29) (ls' := [some (.ref 88), some (.int x1), some (.int x2), some (.int x3), some (.int (x4 + ci 1))]) (st' := []) (h1 := (SH, s)) rfl ?_
  rw [← Option.some.inj hJ] at hC
  exact hC
def F_X12_busy_B29 (x1 : Int32) (x2 : Int32) (x3 : Int32) (x4 : Int32) (s : mG) : Option ((Int32 × Int32 × Int32 × Int32 × mG) ⊕ (Int32 × mG)) :=
  if (c8 24) ≤ x4 then
    if x1 = 0 then
      some (Sum.inr (x3, s))
    else
      b2 (F_X12_movesIn (x2 + x3) s) fun v9 s8 =>
      some (Sum.inr ((v9 / (c16 1000)), s8))
  else
    b2 (F_X12_movesIn (x2 + x4) s) fun v12 s11 =>
    b2 (F_X12_movesIn (x2 + x3) s11) fun v15 s14 =>
    if v12 ≤ v15 then
      F_X12_busy_57 x1 x2 x3 x4 s14
    else
      F_X12_busy_57 x1 x2 x4 x4 s14
set_option maxRecDepth 4000 in
theorem k_X12_busy_B29 {N : Nat} {xs : Nat → Int32} (d : Nat) {r : Option Value × mH} {s : mG} {x1 : Int32} {x2 : Int32} {x3 : Int32} {x4 : Int32} {τ : ((Int32 × Int32 × Int32 × Int32 × mG) ⊕ (Int32 × mG))} (hJ : F_X12_busy_B29 x1 x2 x3 x4 s = some τ) (hC : (C_X12_busy_29 N xs d r (fun τ => r = (some (.int τ.1), (SH, τ.2)))) τ) : Rn N xs (d + 5) me283 29 [some (.ref 88), some (.int x1), some (.int x2), some (.int x3), some (.int x4)] [] (SH, s) r := by
  unfold F_X12_busy_B29 at hJ
  refine Rn_sq srt283 20 3 (pc' := (if (c8 24) ≤ x4 then 63 else 36)) (ls' := [some (.ref 88), some (.int x1), some (.int x2), some (.int x3), some (.int x4)]) (st' := []) (h1 := (SH, s)) rfl (Rn_if (fun h5 => ?_) (fun h5 => ?_))
  · replace hJ := m_ifp h5 hJ
    refine Rn_sq srt283 38 2 (pc' := (if x1 = 0 then 67 else 71)) (ls' := [some (.ref 88), some (.int x1), some (.int x2), some (.int x3), some (.int x4)]) (st' := []) (h1 := (SH, s)) rfl (Rn_if (fun h6 => ?_) (fun h6 => ?_))
    · replace hJ := m_ifp h6 hJ
      refine Rn_sq srt283 40 2 (pc' := 82) (ls' := [some (.ref 88), some (.int x1), some (.int x2), some (.int x3), some (.int x4)]) (st' := [(.int x3)]) (h1 := (SH, s)) rfl ?_
      rw [← Option.some.inj hJ] at hC
      have hC : r = (some (.int x3), (SH, s)) := hC
      subst hC
      exact Rn_ret srt283 49 rfl rfl rfl
    · replace hJ := m_ifn h6 hJ
      refine Rn_sq srt283 42 4 (pc' := 75) (ls' := [some (.ref 88), some (.int x1), some (.int x2), some (.int x3), some (.int x4)]) (st' := [(.int (x2 + x3)), (.ref 88)]) (h1 := (SH, s)) rfl ?_
      obtain ⟨v9, s8, h7, hJ⟩ := m_b2 hJ
      refine Rn_call srt283 46 rfl rfl rfl ⟨Nat.le_of_ble_eq_true rfl, Nat.le_of_ble_eq_true rfl, rfl, Nat.le_of_ble_eq_true rfl⟩ (k_X12_movesIn (d) h7) (show Rn N xs (d + 5) me283 78 [some (.ref 88), some (.int x1), some (.int x2), some (.int x3), some (.int x4)] [(.int v9)] (SH, s8) r from ?_)
      refine Rn_sq srt283 47 1 (pc' := 81) (ls' := [some (.ref 88), some (.int x1), some (.int x2), some (.int x3), some (.int x4)]) (st' := [(.int (c16 1000)), (.int v9)]) (h1 := (SH, s8)) rfl ?_
      refine Rn_ev srt283 48 rfl rfl rfl (op_idiv (by decide)) ?_
      rw [← Option.some.inj hJ] at hC
      have hC : r = (some (.int (v9 / (c16 1000))), (SH, s8)) := hC
      subst hC
      exact Rn_ret srt283 49 rfl rfl rfl
  · replace hJ := m_ifn h5 hJ
    refine Rn_sq srt283 23 4 (pc' := 41) (ls' := [some (.ref 88), some (.int x1), some (.int x2), some (.int x3), some (.int x4)]) (st' := [(.int (x2 + x4)), (.ref 88)]) (h1 := (SH, s)) rfl ?_
    obtain ⟨v12, s11, h10, hJ⟩ := m_b2 hJ
    refine Rn_call srt283 27 rfl rfl rfl ⟨Nat.le_of_ble_eq_true rfl, Nat.le_of_ble_eq_true rfl, rfl, Nat.le_of_ble_eq_true rfl⟩ (k_X12_movesIn (d) h10) (show Rn N xs (d + 5) me283 44 [some (.ref 88), some (.int x1), some (.int x2), some (.int x3), some (.int x4)] [(.int v12)] (SH, s11) r from ?_)
    refine Rn_sq srt283 28 4 (pc' := 48) (ls' := [some (.ref 88), some (.int x1), some (.int x2), some (.int x3), some (.int x4)]) (st' := [(.int (x2 + x3)), (.ref 88), (.int v12)]) (h1 := (SH, s11)) rfl ?_
    obtain ⟨v15, s14, h13, hJ⟩ := m_b2 hJ
    refine Rn_call srt283 32 rfl rfl rfl ⟨Nat.le_of_ble_eq_true rfl, Nat.le_of_ble_eq_true rfl, rfl, Nat.le_of_ble_eq_true rfl⟩ (k_X12_movesIn (d) h13) (show Rn N xs (d + 5) me283 51 [some (.ref 88), some (.int x1), some (.int x2), some (.int x3), some (.int x4)] [(.int v15), (.int v12)] (SH, s14) r from ?_)
    refine Rn_sq srt283 33 1 (pc' := (if v12 ≤ v15 then 57 else 54)) (ls' := [some (.ref 88), some (.int x1), some (.int x2), some (.int x3), some (.int x4)]) (st' := []) (h1 := (SH, s14)) rfl (Rn_if (fun h16 => ?_) (fun h16 => ?_))
    · replace hJ := m_ifp h16 hJ
      exact (k_X12_busy_57 d hJ hC)
    · replace hJ := m_ifn h16 hJ
      refine Rn_sq srt283 34 2 (pc' := 57) (ls' := [some (.ref 88), some (.int x1), some (.int x2), some (.int x4), some (.int x4)]) (st' := []) (h1 := (SH, s14)) rfl ?_
      exact (k_X12_busy_57 d hJ hC)
def F_X12_busy_L29 (x1 : Int32) (x2 : Int32) (x3 : Int32) (x4 : Int32) (s : mG) : Option (Int32 × mG) := whl (fun (v : (Int32 × Int32 × Int32 × Int32 × mG)) => F_X12_busy_B29 v.1 v.2.1 v.2.2.1 v.2.2.2.1 v.2.2.2.2) (x1, x2, x3, x4, s)
theorem k_X12_busy_L29 {N : Nat} {xs : Nat → Int32} (d : Nat) {r : Option Value × mH} {s : mG} {x1 : Int32} {x2 : Int32} {x3 : Int32} {x4 : Int32} {τ : (Int32 × mG)} (hJ : F_X12_busy_L29 x1 x2 x3 x4 s = some τ) (hC : (fun τ => r = (some (.int τ.1), (SH, τ.2))) τ) : Rn N xs (d + 5) me283 29 [some (.ref 88), some (.int x1), some (.int x2), some (.int x3), some (.int x4)] [] (SH, s) r :=
  whl_link (P := fun (v : (Int32 × Int32 × Int32 × Int32 × mG)) => Rn N xs (d + 5) me283 29 [some (.ref 88), some (.int v.1), some (.int v.2.1), some (.int v.2.2.1), some (.int v.2.2.2.1)] [] (SH, v.2.2.2.2) r) (C := (C_X12_busy_29 N xs d r (fun τ => r = (some (.int τ.1), (SH, τ.2))))) (fun v τ h1 h2 => k_X12_busy_B29 d h1 h2) (fun _ h => h) (fun _ h => h) _ _ hJ hC
def F_X12_busy (a1 : Int32) (s : mG) : Option (Int32 × mG) :=
  b1 (F_X12_isIn s a1 (ci 0) (ci 1)) fun v2 =>
  if v2 = 0 then
    some ((ci (-1)), s)
  else
    let v4 : Int32 := (((s.1 89 0) / (c8 24)) * (c8 24))
    F_X12_busy_L29 a1 v4 (ci 0) (ci 1) s
set_option maxRecDepth 4000 in
theorem k_X12_busy_r {N : Nat} {xs : Nat → Int32} (d : Nat) {r : Option Value × mH} {s : mG} {a1 : Int32} {τ : (Int32 × mG)} (hJ : F_X12_busy a1 s = some τ) (hC : (fun τ => r = (some (.int τ.1), (SH, τ.2))) τ) : Rn N xs (d + 5) me283 0 [some (.ref 88), some (.int a1), none, none, none] [] (SH, s) r := by
  unfold F_X12_busy at hJ
  refine Rn_sq srt283 0 3 (pc' := 3) (ls' := [some (.ref 88), some (.int a1), none, none, none]) (st' := [(.int (ci 1)), (.int (ci 0)), (.int a1)]) (h1 := (SH, s)) rfl ?_
  obtain ⟨v2, h1, hJ⟩ := m_b1 hJ
  refine Rn_call srt283 3 rfl rfl rfl ⟨Nat.le_of_ble_eq_true rfl, Nat.le_of_ble_eq_true rfl, rfl, Nat.le_of_ble_eq_true rfl⟩ (k_X12_isIn (d + 4) h1) (show Rn N xs (d + 5) me283 6 [some (.ref 88), some (.int a1), none, none, none] [(.int v2)] (SH, s) r from ?_)
  refine Rn_sq srt283 4 1 (pc' := (if v2 = 0 then 9 else 11)) (ls' := [some (.ref 88), some (.int a1), none, none, none]) (st' := []) (h1 := (SH, s)) rfl (Rn_if (fun h3 => ?_) (fun h3 => ?_))
  · replace hJ := m_ifp h3 hJ
    refine Rn_sq srt283 5 1 (pc' := 10) (ls' := [some (.ref 88), some (.int a1), none, none, none]) (st' := [(.int (ci (-1)))]) (h1 := (SH, s)) rfl ?_
    rw [← Option.some.inj hJ] at hC
    have hC : r = (some (.int (ci (-1))), (SH, s)) := hC
    subst hC
    exact Rn_ret srt283 6 rfl rfl rfl
  · replace hJ := m_ifn h3 hJ
    refine Rn_sq srt283 7 3 (pc' := 16) (ls' := [some (.ref 88), some (.int a1), none, none, none]) (st' := [(.int (ci 0)), (.ref 89)]) (h1 := (SH, s)) rfl ?_
    refine Rn_ev srt283 10 rfl rfl rfl (op_ia sh89 (by decide) (k := 0) rfl) ?_
    refine Rn_sq srt283 11 1 (pc' := 19) (ls' := [some (.ref 88), some (.int a1), none, none, none]) (st' := [(.int (c8 24)), (.int (s.1 89 0))]) (h1 := (SH, s)) rfl ?_
    refine Rn_ev srt283 12 rfl rfl rfl (op_idiv (by decide)) ?_
    extract_lets +onlyGivenNames v4 at hJ
    refine Rn_sq srt283 13 7 (pc' := 29) (ls' := [some (.ref 88), some (.int a1), some (.int v4), some (.int (ci 0)), some (.int (ci 1))]) (st' := []) (h1 := (SH, s)) rfl ?_
    exact (k_X12_busy_L29 d hJ hC)
theorem k_X12_busy {N : Nat} {xs : Nat → Int32} (d : Nat) {s : mG} {a1 : Int32} {τ : (Int32 × mG)} (hJ : F_X12_busy a1 s = some τ) : Rn N xs (d + 5) me283 0 [some (.ref 88), some (.int a1), none, none, none] [] (SH, s) (some (.int τ.1), (SH, τ.2)) := k_X12_busy_r d hJ rfl
/-! IsHeInModel.lack(I)I -/
theorem srt284 : m_srt mc284 = true := by decide +kernel
def C_X12_lack_21 (N : Nat) (xs : Nat → Int32) (d : Nat) (r : Option Value × mH) (C : (Int32 × mG) → Prop) : ((Int32 × Int32 × Int32 × Int64 × Int32 × mG) ⊕ (Int32 × mG)) → Prop
  | .inl v => Rn N xs (d + 6) me284 21 [some (.ref 88), some (.int v.1), some (.int v.2.1), some (.int v.2.2.1), some (.long v.2.2.2.1), none, some (.int v.2.2.2.2.1)] [] (SH, v.2.2.2.2.2) r
  | .inr a => C a
def F_X12_lack_80 (x1 : Int32) (x2 : Int32) (x3 : Int32) (x4 : Int64) (x6 : Int32) (s : mG) : Option ((Int32 × Int32 × Int32 × Int64 × Int32 × mG) ⊕ (Int32 × mG)) :=
  some (Sum.inl (x1, x2, x3, x4, (x6 + ci 1), s))
set_option maxRecDepth 4000 in
theorem k_X12_lack_80 {N : Nat} {xs : Nat → Int32} (d : Nat) {r : Option Value × mH} {s : mG} {x1 : Int32} {x2 : Int32} {x3 : Int32} {x4 : Int64} {x6 : Int32} {τ : ((Int32 × Int32 × Int32 × Int64 × Int32 × mG) ⊕ (Int32 × mG))} (hJ : F_X12_lack_80 x1 x2 x3 x4 x6 s = some τ) (hC : (C_X12_lack_21 N xs d r (fun τ => r = (some (.int τ.1), (SH, τ.2)))) τ) : Rn N xs (d + 6) me284 80 [some (.ref 88), some (.int x1), some (.int x2), some (.int x3), some (.long x4), none, some (.int x6)] [] (SH, s) r := by
  unfold F_X12_lack_80 at hJ
  refine Rn_sq srt284 48 2 (pc' := 21) (ls' := [some (.ref 88), some (.int x1), some (.int x2), some (.int x3), some (.long x4), none, some (.int (x6 + ci 1))]) (st' := []) (h1 := (SH, s)) rfl ?_
  rw [← Option.some.inj hJ] at hC
  exact hC
def F_X12_lack_B21 (x1 : Int32) (x2 : Int32) (x3 : Int32) (x4 : Int64) (x6 : Int32) (s : mG) : Option ((Int32 × Int32 × Int32 × Int64 × Int32 × mG) ⊕ (Int32 × mG)) :=
  if (s.1 89 112) ≤ x6 then
    if x1 = 0 then
      some (Sum.inr (x2, s))
    else
      if x1 = (ci 1) then
        let v7 : Int32 := (x4 / (cl 1000000)).toInt32
        some (Sum.inr (v7, s))
      else
        some (Sum.inr (x3, s))
  else
    if ((c8 15) + x6) < 0 ∨ 1894 ≤ ((c8 15) + x6).toNatClampNeg then none else
    if (s.1 89 ((c8 15) + x6).toNatClampNeg) = (ci (-1)) then
      if ((ci 3) + x6) < 0 ∨ 1894 ≤ ((ci 3) + x6).toNatClampNeg then none else
      let v11 : Int32 := (x3 + (s.1 89 ((ci 3) + x6).toNatClampNeg))
      b2 (F_X12_sureOf x6 s) fun v14 s13 =>
      let v15 : Int64 := (x4 + ((cl 1000000) - v14))
      F_X12_lack_80 x1 (x2 + ci 1) v11 v15 x6 s13
    else
      F_X12_lack_80 x1 x2 x3 x4 x6 s
set_option maxRecDepth 4000 in
theorem k_X12_lack_B21 {N : Nat} {xs : Nat → Int32} (d : Nat) {r : Option Value × mH} {s : mG} {x1 : Int32} {x2 : Int32} {x3 : Int32} {x4 : Int64} {x6 : Int32} {τ : ((Int32 × Int32 × Int32 × Int64 × Int32 × mG) ⊕ (Int32 × mG))} (hJ : F_X12_lack_B21 x1 x2 x3 x4 x6 s = some τ) (hC : (C_X12_lack_21 N xs d r (fun τ => r = (some (.int τ.1), (SH, τ.2)))) τ) : Rn N xs (d + 6) me284 21 [some (.ref 88), some (.int x1), some (.int x2), some (.int x3), some (.long x4), none, some (.int x6)] [] (SH, s) r := by
  unfold F_X12_lack_B21 at hJ
  refine Rn_sq srt284 15 4 (pc' := 29) (ls' := [some (.ref 88), some (.int x1), some (.int x2), some (.int x3), some (.long x4), none, some (.int x6)]) (st' := [(.int (c8 112)), (.ref 89), (.int x6)]) (h1 := (SH, s)) rfl ?_
  refine Rn_ev srt284 19 rfl rfl rfl (op_ia sh89 (by decide) (k := 112) rfl) ?_
  refine Rn_sq srt284 20 1 (pc' := (if (s.1 89 112) ≤ x6 then 86 else 33)) (ls' := [some (.ref 88), some (.int x1), some (.int x2), some (.int x3), some (.long x4), none, some (.int x6)]) (st' := []) (h1 := (SH, s)) rfl (Rn_if (fun h4 => ?_) (fun h4 => ?_))
  · replace hJ := m_ifp h4 hJ
    refine Rn_sq srt284 50 2 (pc' := (if x1 = 0 then 90 else 94)) (ls' := [some (.ref 88), some (.int x1), some (.int x2), some (.int x3), some (.long x4), none, some (.int x6)]) (st' := []) (h1 := (SH, s)) rfl (Rn_if (fun h5 => ?_) (fun h5 => ?_))
    · replace hJ := m_ifp h5 hJ
      refine Rn_sq srt284 52 2 (pc' := 110) (ls' := [some (.ref 88), some (.int x1), some (.int x2), some (.int x3), some (.long x4), none, some (.int x6)]) (st' := [(.int x2)]) (h1 := (SH, s)) rfl ?_
      rw [← Option.some.inj hJ] at hC
      have hC : r = (some (.int x2), (SH, s)) := hC
      subst hC
      exact Rn_ret srt284 63 rfl rfl rfl
    · replace hJ := m_ifn h5 hJ
      refine Rn_sq srt284 54 3 (pc' := (if x1 = (ci 1) then 99 else 109)) (ls' := [some (.ref 88), some (.int x1), some (.int x2), some (.int x3), some (.long x4), none, some (.int x6)]) (st' := []) (h1 := (SH, s)) rfl (Rn_if (fun h6 => ?_) (fun h6 => ?_))
      · replace hJ := m_ifp h6 hJ
        refine Rn_sq srt284 57 2 (pc' := 104) (ls' := [some (.ref 88), some (.int x1), some (.int x2), some (.int x3), some (.long x4), none, some (.int x6)]) (st' := [(.long (cl 1000000)), (.long x4)]) (h1 := (SH, s)) rfl ?_
        refine Rn_ev srt284 59 rfl rfl rfl (op_ldiv (by decide)) ?_
        refine Rn_sq srt284 60 2 (pc' := 110) (ls' := [some (.ref 88), some (.int x1), some (.int x2), some (.int x3), some (.long x4), none, some (.int x6)]) (st' := [(.int (x4 / (cl 1000000)).toInt32)]) (h1 := (SH, s)) rfl ?_
        extract_lets +onlyGivenNames v7 at hJ
        rw [← Option.some.inj hJ] at hC
        have hC : r = (some (.int (x4 / (cl 1000000)).toInt32), (SH, s)) := hC
        subst hC
        exact Rn_ret srt284 63 rfl rfl rfl
      · replace hJ := m_ifn h6 hJ
        refine Rn_sq srt284 62 1 (pc' := 110) (ls' := [some (.ref 88), some (.int x1), some (.int x2), some (.int x3), some (.long x4), none, some (.int x6)]) (st' := [(.int x3)]) (h1 := (SH, s)) rfl ?_
        rw [← Option.some.inj hJ] at hC
        have hC : r = (some (.int x3), (SH, s)) := hC
        subst hC
        exact Rn_ret srt284 63 rfl rfl rfl
  · replace hJ := m_ifn h4 hJ
    refine Rn_sq srt284 21 5 (pc' := 42) (ls' := [some (.ref 88), some (.int x1), some (.int x2), some (.int x3), some (.long x4), none, some (.int x6)]) (st' := [(.int ((c8 15) + x6)), (.ref 89)]) (h1 := (SH, s)) rfl ?_
    obtain ⟨h8, hJ⟩ := m_gn hJ
    refine Rn_ev srt284 26 rfl rfl rfl (op_ia sh89 h8 (k := ((c8 15) + x6).toNatClampNeg) rfl) ?_
    refine Rn_sq srt284 27 2 (pc' := (if (s.1 89 ((c8 15) + x6).toNatClampNeg) = (ci (-1)) then 50 else 47)) (ls' := [some (.ref 88), some (.int x1), some (.int x2), some (.int x3), some (.long x4), none, some (.int x6)]) (st' := []) (h1 := (SH, s)) rfl (Rn_if (fun h9 => ?_) (fun h9 => ?_))
    · replace hJ := m_ifp h9 hJ
      refine Rn_sq srt284 30 7 (pc' := 62) (ls' := [some (.ref 88), some (.int x1), some (.int (x2 + ci 1)), some (.int x3), some (.long x4), none, some (.int x6)]) (st' := [(.int ((ci 3) + x6)), (.ref 89), (.int x3)]) (h1 := (SH, s)) rfl ?_
      obtain ⟨h10, hJ⟩ := m_gn hJ
      refine Rn_ev srt284 37 rfl rfl rfl (op_ia sh89 h10 (k := ((ci 3) + x6).toNatClampNeg) rfl) ?_
      extract_lets +onlyGivenNames v11 at hJ
      refine Rn_sq srt284 38 6 (pc' := 73) (ls' := [some (.ref 88), some (.int x1), some (.int (x2 + ci 1)), some (.int v11), some (.long x4), none, some (.int x6)]) (st' := [(.int x6), (.ref 88), (.long (cl 1000000)), (.long x4)]) (h1 := (SH, s)) rfl ?_
      obtain ⟨v14, s13, h12, hJ⟩ := m_b2 hJ
      refine Rn_call srt284 44 rfl rfl rfl ⟨Nat.le_of_ble_eq_true rfl, Nat.le_of_ble_eq_true rfl, rfl, Nat.le_of_ble_eq_true rfl⟩ (k_X12_sureOf (d) h12) (show Rn N xs (d + 6) me284 76 [some (.ref 88), some (.int x1), some (.int (x2 + ci 1)), some (.int v11), some (.long x4), none, some (.int x6)] [(.long v14), (.long (cl 1000000)), (.long x4)] (SH, s13) r from ?_)
      extract_lets +onlyGivenNames v15 at hJ
      refine Rn_sq srt284 45 3 (pc' := 80) (ls' := [some (.ref 88), some (.int x1), some (.int (x2 + ci 1)), some (.int v11), some (.long v15), none, some (.int x6)]) (st' := []) (h1 := (SH, s13)) rfl ?_
      exact (k_X12_lack_80 d hJ hC)
    · replace hJ := m_ifn h9 hJ
      refine Rn_sq srt284 29 1 (pc' := 80) (ls' := [some (.ref 88), some (.int x1), some (.int x2), some (.int x3), some (.long x4), none, some (.int x6)]) (st' := []) (h1 := (SH, s)) rfl ?_
      exact (k_X12_lack_80 d hJ hC)
def F_X12_lack_L21 (x1 : Int32) (x2 : Int32) (x3 : Int32) (x4 : Int64) (x6 : Int32) (s : mG) : Option (Int32 × mG) := whl (fun (v : (Int32 × Int32 × Int32 × Int64 × Int32 × mG)) => F_X12_lack_B21 v.1 v.2.1 v.2.2.1 v.2.2.2.1 v.2.2.2.2.1 v.2.2.2.2.2) (x1, x2, x3, x4, x6, s)
theorem k_X12_lack_L21 {N : Nat} {xs : Nat → Int32} (d : Nat) {r : Option Value × mH} {s : mG} {x1 : Int32} {x2 : Int32} {x3 : Int32} {x4 : Int64} {x6 : Int32} {τ : (Int32 × mG)} (hJ : F_X12_lack_L21 x1 x2 x3 x4 x6 s = some τ) (hC : (fun τ => r = (some (.int τ.1), (SH, τ.2))) τ) : Rn N xs (d + 6) me284 21 [some (.ref 88), some (.int x1), some (.int x2), some (.int x3), some (.long x4), none, some (.int x6)] [] (SH, s) r :=
  whl_link (P := fun (v : (Int32 × Int32 × Int32 × Int64 × Int32 × mG)) => Rn N xs (d + 6) me284 21 [some (.ref 88), some (.int v.1), some (.int v.2.1), some (.int v.2.2.1), some (.long v.2.2.2.1), none, some (.int v.2.2.2.2.1)] [] (SH, v.2.2.2.2.2) r) (C := (C_X12_lack_21 N xs d r (fun τ => r = (some (.int τ.1), (SH, τ.2))))) (fun v τ h1 h2 => k_X12_lack_B21 d h1 h2) (fun _ h => h) (fun _ h => h) _ _ hJ hC
def F_X12_lack (a1 : Int32) (s : mG) : Option (Int32 × mG) :=
  b1 (F_X12_isIn s a1 (ci 0) (ci 2)) fun v2 =>
  if v2 = 0 then
    some ((ci (-1)), s)
  else
    F_X12_lack_L21 a1 (ci 0) (ci 0) (cz 0) (ci 0) s
set_option maxRecDepth 4000 in
theorem k_X12_lack_r {N : Nat} {xs : Nat → Int32} (d : Nat) {r : Option Value × mH} {s : mG} {a1 : Int32} {τ : (Int32 × mG)} (hJ : F_X12_lack a1 s = some τ) (hC : (fun τ => r = (some (.int τ.1), (SH, τ.2))) τ) : Rn N xs (d + 6) me284 0 [some (.ref 88), some (.int a1), none, none, none, none, none] [] (SH, s) r := by
  unfold F_X12_lack at hJ
  refine Rn_sq srt284 0 3 (pc' := 3) (ls' := [some (.ref 88), some (.int a1), none, none, none, none, none]) (st' := [(.int (ci 2)), (.int (ci 0)), (.int a1)]) (h1 := (SH, s)) rfl ?_
  obtain ⟨v2, h1, hJ⟩ := m_b1 hJ
  refine Rn_call srt284 3 rfl rfl rfl ⟨Nat.le_of_ble_eq_true rfl, Nat.le_of_ble_eq_true rfl, rfl, Nat.le_of_ble_eq_true rfl⟩ (k_X12_isIn (d + 5) h1) (show Rn N xs (d + 6) me284 6 [some (.ref 88), some (.int a1), none, none, none, none, none] [(.int v2)] (SH, s) r from ?_)
  refine Rn_sq srt284 4 1 (pc' := (if v2 = 0 then 9 else 11)) (ls' := [some (.ref 88), some (.int a1), none, none, none, none, none]) (st' := []) (h1 := (SH, s)) rfl (Rn_if (fun h3 => ?_) (fun h3 => ?_))
  · replace hJ := m_ifp h3 hJ
    refine Rn_sq srt284 5 1 (pc' := 10) (ls' := [some (.ref 88), some (.int a1), none, none, none, none, none]) (st' := [(.int (ci (-1)))]) (h1 := (SH, s)) rfl ?_
    rw [← Option.some.inj hJ] at hC
    have hC : r = (some (.int (ci (-1))), (SH, s)) := hC
    subst hC
    exact Rn_ret srt284 6 rfl rfl rfl
  · replace hJ := m_ifn h3 hJ
    refine Rn_sq srt284 7 8 (pc' := 21) (ls' := [some (.ref 88), some (.int a1), some (.int (ci 0)), some (.int (ci 0)), some (.long (cz 0)), none, some (.int (ci 0))]) (st' := []) (h1 := (SH, s)) rfl ?_
    exact (k_X12_lack_L21 d hJ hC)
theorem k_X12_lack {N : Nat} {xs : Nat → Int32} (d : Nat) {s : mG} {a1 : Int32} {τ : (Int32 × mG)} (hJ : F_X12_lack a1 s = some τ) : Rn N xs (d + 6) me284 0 [some (.ref 88), some (.int a1), none, none, none, none, none] [] (SH, s) (some (.int τ.1), (SH, τ.2)) := k_X12_lack_r d hJ rfl
/-! IsHeInModel.empty(I)I -/
theorem srt285 : m_srt mc285 = true := by decide +kernel
def C_X12_empty_18 (N : Nat) (xs : Nat → Int32) (d : Nat) (r : Option Value × mH) (C : (Int32 × mG) → Prop) : ((Int32 × Int64 × Int32 × mG) ⊕ (Int32 × mG)) → Prop
  | .inl v => Rn N xs (d + 6) me285 18 [some (.ref 88), some (.int v.1), some (.long v.2.1), none, some (.int v.2.2.1)] [] (SH, v.2.2.2) r
  | .inr a => C a
def F_X12_empty_64 (x1 : Int32) (x4 : Int32) (y0 : Int64) (s : mG) : Option ((Int32 × Int64 × Int32 × mG) ⊕ (Int32 × mG)) :=
  some (Sum.inl (x1, y0, (x4 + ci 1), s))
set_option maxRecDepth 4000 in
theorem k_X12_empty_64 {N : Nat} {xs : Nat → Int32} (d : Nat) {r : Option Value × mH} {s : mG} {x1 : Int32} {x4 : Int32} {y0 : Int64} {τ : ((Int32 × Int64 × Int32 × mG) ⊕ (Int32 × mG))} (hJ : F_X12_empty_64 x1 x4 y0 s = some τ) (hC : (C_X12_empty_18 N xs d r (fun τ => r = (some (.int τ.1), (SH, τ.2)))) τ) : Rn N xs (d + 6) me285 64 [some (.ref 88), some (.int x1), none, none, some (.int x4)] [(.long y0)] (SH, s) r := by
  unfold F_X12_empty_64 at hJ
  refine Rn_sq srt285 36 3 (pc' := 18) (ls' := [some (.ref 88), some (.int x1), some (.long y0), none, some (.int (x4 + ci 1))]) (st' := []) (h1 := (SH, s)) rfl ?_
  rw [← Option.some.inj hJ] at hC
  exact hC
def F_X12_empty_B18 (x1 : Int32) (x2 : Int64) (x4 : Int32) (s : mG) : Option ((Int32 × Int64 × Int32 × mG) ⊕ (Int32 × mG)) :=
  if (s.1 89 112) ≤ x4 then
    some (Sum.inr (x2.toInt32, s))
  else
    if ((c8 119) + x4) < 0 ∨ 1894 ≤ ((c8 119) + x4).toNatClampNeg then none else
    if (s.1 89 ((c8 119) + x4).toNatClampNeg) = x1 then
      b2 (F_X12_sureOf x4 s) fun v9 s8 =>
      F_X12_empty_64 x1 x4 ((x2 * ((cl 1000000) - v9)) / (cl 1000000)) s8
    else
      F_X12_empty_64 x1 x4 x2 s
set_option maxRecDepth 4000 in
theorem k_X12_empty_B18 {N : Nat} {xs : Nat → Int32} (d : Nat) {r : Option Value × mH} {s : mG} {x1 : Int32} {x2 : Int64} {x4 : Int32} {τ : ((Int32 × Int64 × Int32 × mG) ⊕ (Int32 × mG))} (hJ : F_X12_empty_B18 x1 x2 x4 s = some τ) (hC : (C_X12_empty_18 N xs d r (fun τ => r = (some (.int τ.1), (SH, τ.2)))) τ) : Rn N xs (d + 6) me285 18 [some (.ref 88), some (.int x1), some (.long x2), none, some (.int x4)] [] (SH, s) r := by
  unfold F_X12_empty_B18 at hJ
  refine Rn_sq srt285 11 4 (pc' := 26) (ls' := [some (.ref 88), some (.int x1), some (.long x2), none, some (.int x4)]) (st' := [(.int (c8 112)), (.ref 89), (.int x4)]) (h1 := (SH, s)) rfl ?_
  refine Rn_ev srt285 15 rfl rfl rfl (op_ia sh89 (by decide) (k := 112) rfl) ?_
  refine Rn_sq srt285 16 1 (pc' := (if (s.1 89 112) ≤ x4 then 71 else 30)) (ls' := [some (.ref 88), some (.int x1), some (.long x2), none, some (.int x4)]) (st' := []) (h1 := (SH, s)) rfl (Rn_if (fun h4 => ?_) (fun h4 => ?_))
  · replace hJ := m_ifp h4 hJ
    refine Rn_sq srt285 39 2 (pc' := 73) (ls' := [some (.ref 88), some (.int x1), some (.long x2), none, some (.int x4)]) (st' := [(.int x2.toInt32)]) (h1 := (SH, s)) rfl ?_
    rw [← Option.some.inj hJ] at hC
    have hC : r = (some (.int x2.toInt32), (SH, s)) := hC
    subst hC
    exact Rn_ret srt285 41 rfl rfl rfl
  · replace hJ := m_ifn h4 hJ
    refine Rn_sq srt285 17 5 (pc' := 39) (ls' := [some (.ref 88), some (.int x1), some (.long x2), none, some (.int x4)]) (st' := [(.int ((c8 119) + x4)), (.ref 89)]) (h1 := (SH, s)) rfl ?_
    obtain ⟨h5, hJ⟩ := m_gn hJ
    refine Rn_ev srt285 22 rfl rfl rfl (op_ia sh89 h5 (k := ((c8 119) + x4).toNatClampNeg) rfl) ?_
    refine Rn_sq srt285 23 2 (pc' := (if (s.1 89 ((c8 119) + x4).toNatClampNeg) = x1 then 44 else 63)) (ls' := [some (.ref 88), some (.int x1), some (.long x2), none, some (.int x4)]) (st' := []) (h1 := (SH, s)) rfl (Rn_if (fun h6 => ?_) (fun h6 => ?_))
    · replace hJ := m_ifp h6 hJ
      refine Rn_sq srt285 25 4 (pc' := 51) (ls' := [some (.ref 88), some (.int x1), some (.long x2), none, some (.int x4)]) (st' := [(.int x4), (.ref 88), (.long (cl 1000000)), (.long x2)]) (h1 := (SH, s)) rfl ?_
      obtain ⟨v9, s8, h7, hJ⟩ := m_b2 hJ
      refine Rn_call srt285 29 rfl rfl rfl ⟨Nat.le_of_ble_eq_true rfl, Nat.le_of_ble_eq_true rfl, rfl, Nat.le_of_ble_eq_true rfl⟩ (k_X12_sureOf (d) h7) (show Rn N xs (d + 6) me285 54 [some (.ref 88), some (.int x1), some (.long x2), none, some (.int x4)] [(.long v9), (.long (cl 1000000)), (.long x2)] (SH, s8) r from ?_)
      refine Rn_sq srt285 30 3 (pc' := 59) (ls' := [some (.ref 88), some (.int x1), some (.long x2), none, some (.int x4)]) (st' := [(.long (cl 1000000)), (.long (x2 * ((cl 1000000) - v9)))]) (h1 := (SH, s8)) rfl ?_
      refine Rn_ev srt285 33 rfl rfl rfl (op_ldiv (by decide)) ?_
      refine Rn_sq srt285 34 1 (pc' := 64) (ls' := [some (.ref 88), some (.int x1), some (.long x2), none, some (.int x4)]) (st' := [(.long ((x2 * ((cl 1000000) - v9)) / (cl 1000000)))]) (h1 := (SH, s8)) rfl ?_
      exact Rn_weaken (a := [some (.ref 88), some (.int x1), none, none, some (.int x4)]) (b := [some (.ref 88), some (.int x1), some (.long x2), none, some (.int x4)]) (And.intro rfl (And.intro rfl (And.intro rfl trivial))) rfl (k_X12_empty_64 d hJ hC)
    · replace hJ := m_ifn h6 hJ
      refine Rn_sq srt285 35 1 (pc' := 64) (ls' := [some (.ref 88), some (.int x1), some (.long x2), none, some (.int x4)]) (st' := [(.long x2)]) (h1 := (SH, s)) rfl ?_
      exact Rn_weaken (a := [some (.ref 88), some (.int x1), none, none, some (.int x4)]) (b := [some (.ref 88), some (.int x1), some (.long x2), none, some (.int x4)]) (And.intro rfl (And.intro rfl (And.intro rfl trivial))) rfl (k_X12_empty_64 d hJ hC)
def F_X12_empty_L18 (x1 : Int32) (x2 : Int64) (x4 : Int32) (s : mG) : Option (Int32 × mG) := whl (fun (v : (Int32 × Int64 × Int32 × mG)) => F_X12_empty_B18 v.1 v.2.1 v.2.2.1 v.2.2.2) (x1, x2, x4, s)
theorem k_X12_empty_L18 {N : Nat} {xs : Nat → Int32} (d : Nat) {r : Option Value × mH} {s : mG} {x1 : Int32} {x2 : Int64} {x4 : Int32} {τ : (Int32 × mG)} (hJ : F_X12_empty_L18 x1 x2 x4 s = some τ) (hC : (fun τ => r = (some (.int τ.1), (SH, τ.2))) τ) : Rn N xs (d + 6) me285 18 [some (.ref 88), some (.int x1), some (.long x2), none, some (.int x4)] [] (SH, s) r :=
  whl_link (P := fun (v : (Int32 × Int64 × Int32 × mG)) => Rn N xs (d + 6) me285 18 [some (.ref 88), some (.int v.1), some (.long v.2.1), none, some (.int v.2.2.1)] [] (SH, v.2.2.2) r) (C := (C_X12_empty_18 N xs d r (fun τ => r = (some (.int τ.1), (SH, τ.2))))) (fun v τ h1 h2 => k_X12_empty_B18 d h1 h2) (fun _ h => h) (fun _ h => h) _ _ hJ hC
def F_X12_empty (a1 : Int32) (s : mG) : Option (Int32 × mG) :=
  b1 (F_X12_isIn s a1 (ci 0) (ci 3)) fun v2 =>
  if v2 = 0 then
    some ((ci (-1)), s)
  else
    F_X12_empty_L18 a1 (cl 1000000) (ci 0) s
set_option maxRecDepth 4000 in
theorem k_X12_empty_r {N : Nat} {xs : Nat → Int32} (d : Nat) {r : Option Value × mH} {s : mG} {a1 : Int32} {τ : (Int32 × mG)} (hJ : F_X12_empty a1 s = some τ) (hC : (fun τ => r = (some (.int τ.1), (SH, τ.2))) τ) : Rn N xs (d + 6) me285 0 [some (.ref 88), some (.int a1), none, none, none] [] (SH, s) r := by
  unfold F_X12_empty at hJ
  refine Rn_sq srt285 0 3 (pc' := 3) (ls' := [some (.ref 88), some (.int a1), none, none, none]) (st' := [(.int (ci 3)), (.int (ci 0)), (.int a1)]) (h1 := (SH, s)) rfl ?_
  obtain ⟨v2, h1, hJ⟩ := m_b1 hJ
  refine Rn_call srt285 3 rfl rfl rfl ⟨Nat.le_of_ble_eq_true rfl, Nat.le_of_ble_eq_true rfl, rfl, Nat.le_of_ble_eq_true rfl⟩ (k_X12_isIn (d + 5) h1) (show Rn N xs (d + 6) me285 6 [some (.ref 88), some (.int a1), none, none, none] [(.int v2)] (SH, s) r from ?_)
  refine Rn_sq srt285 4 1 (pc' := (if v2 = 0 then 9 else 11)) (ls' := [some (.ref 88), some (.int a1), none, none, none]) (st' := []) (h1 := (SH, s)) rfl (Rn_if (fun h3 => ?_) (fun h3 => ?_))
  · replace hJ := m_ifp h3 hJ
    refine Rn_sq srt285 5 1 (pc' := 10) (ls' := [some (.ref 88), some (.int a1), none, none, none]) (st' := [(.int (ci (-1)))]) (h1 := (SH, s)) rfl ?_
    rw [← Option.some.inj hJ] at hC
    have hC : r = (some (.int (ci (-1))), (SH, s)) := hC
    subst hC
    exact Rn_ret srt285 6 rfl rfl rfl
  · replace hJ := m_ifn h3 hJ
    refine Rn_sq srt285 7 4 (pc' := 18) (ls' := [some (.ref 88), some (.int a1), some (.long (cl 1000000)), none, some (.int (ci 0))]) (st' := []) (h1 := (SH, s)) rfl ?_
    exact (k_X12_empty_L18 d hJ hC)
theorem k_X12_empty {N : Nat} {xs : Nat → Int32} (d : Nat) {s : mG} {a1 : Int32} {τ : (Int32 × mG)} (hJ : F_X12_empty a1 s = some τ) : Rn N xs (d + 6) me285 0 [some (.ref 88), some (.int a1), none, none, none] [] (SH, s) (some (.int τ.1), (SH, τ.2)) := k_X12_empty_r d hJ rfl
/-! IsHeInModel.thief()I -/
theorem srt286 : m_srt mc286 = true := by decide +kernel
def C_X12_thief_4 (N : Nat) (xs : Nat → Int32) (s : mG) (d : Nat) (r : Option Value × mH) (C : (Int32) → Prop) : ((Int32 × Int32) ⊕ (Int32)) → Prop
  | .inl v => Rn N xs (d + 0) me286 4 [some (.ref 88), some (.int v.1), some (.int v.2)] [] (SH, s) r
  | .inr a => C a
def F_X12_thief_68 (s : mG) (x1 : Int32) (x2 : Int32) : Option ((Int32 × Int32) ⊕ (Int32)) :=
  some (Sum.inl (x1, (x2 + ci 1)))
set_option maxRecDepth 4000 in
theorem k_X12_thief_68 {N : Nat} {xs : Nat → Int32} (d : Nat) {r : Option Value × mH} {s : mG} {x1 : Int32} {x2 : Int32} {τ : ((Int32 × Int32) ⊕ (Int32))} (hJ : F_X12_thief_68 s x1 x2 = some τ) (hC : (C_X12_thief_4 N xs s d r (fun τ => r = (some (.int τ), (SH, s)))) τ) : Rn N xs (d + 0) me286 68 [some (.ref 88), some (.int x1), some (.int x2)] [] (SH, s) r := by
  unfold F_X12_thief_68 at hJ
  refine Rn_sq srt286 44 2 (pc' := 4) (ls' := [some (.ref 88), some (.int x1), some (.int (x2 + ci 1))]) (st' := []) (h1 := (SH, s)) rfl ?_
  rw [← Option.some.inj hJ] at hC
  exact hC
def F_X12_thief_66 (s : mG) (x2 : Int32) : Option ((Int32 × Int32) ⊕ (Int32)) :=
  F_X12_thief_68 s x2 x2
set_option maxRecDepth 4000 in
theorem k_X12_thief_66 {N : Nat} {xs : Nat → Int32} (d : Nat) {r : Option Value × mH} {s : mG} {x2 : Int32} {τ : ((Int32 × Int32) ⊕ (Int32))} (hJ : F_X12_thief_66 s x2 = some τ) (hC : (C_X12_thief_4 N xs s d r (fun τ => r = (some (.int τ), (SH, s)))) τ) : Rn N xs (d + 0) me286 66 [some (.ref 88), none, some (.int x2)] [] (SH, s) r := by
  unfold F_X12_thief_66 at hJ
  refine Rn_sq srt286 42 2 (pc' := 68) (ls' := [some (.ref 88), some (.int x2), some (.int x2)]) (st' := []) (h1 := (SH, s)) rfl ?_
  exact (k_X12_thief_68 d hJ hC)
def F_X12_thief_B4 (s : mG) (x1 : Int32) (x2 : Int32) : Option ((Int32 × Int32) ⊕ (Int32)) :=
  if (s.1 89 112) ≤ x2 then
    some (Sum.inr x1)
  else
    if ((c8 15) + x2) < 0 ∨ 1894 ≤ ((c8 15) + x2).toNatClampNeg then none else
    if (s.1 89 ((c8 15) + x2).toNatClampNeg) = (ci (-1)) then
      if ((ci 3) + x2) < 0 ∨ 1894 ≤ ((ci 3) + x2).toNatClampNeg then none else
      if (s.1 89 ((ci 3) + x2).toNatClampNeg) = (ci 1) then
        if x1 = (ci (-1)) then
          F_X12_thief_66 s x2
        else
          if ((c8 27) + x2) < 0 ∨ 1894 ≤ ((c8 27) + x2).toNatClampNeg then none else
          if ((c8 27) + x1) < 0 ∨ 1894 ≤ ((c8 27) + x1).toNatClampNeg then none else
          if (s.1 89 ((c8 27) + x2).toNatClampNeg) ≤ (s.1 89 ((c8 27) + x1).toNatClampNeg) then
            F_X12_thief_68 s x1 x2
          else
            F_X12_thief_66 s x2
      else
        F_X12_thief_68 s x1 x2
    else
      F_X12_thief_68 s x1 x2
set_option maxRecDepth 4000 in
theorem k_X12_thief_B4 {N : Nat} {xs : Nat → Int32} (d : Nat) {r : Option Value × mH} {s : mG} {x1 : Int32} {x2 : Int32} {τ : ((Int32 × Int32) ⊕ (Int32))} (hJ : F_X12_thief_B4 s x1 x2 = some τ) (hC : (C_X12_thief_4 N xs s d r (fun τ => r = (some (.int τ), (SH, s)))) τ) : Rn N xs (d + 0) me286 4 [some (.ref 88), some (.int x1), some (.int x2)] [] (SH, s) r := by
  unfold F_X12_thief_B4 at hJ
  refine Rn_sq srt286 4 4 (pc' := 11) (ls' := [some (.ref 88), some (.int x1), some (.int x2)]) (st' := [(.int (c8 112)), (.ref 89), (.int x2)]) (h1 := (SH, s)) rfl ?_
  refine Rn_ev srt286 8 rfl rfl rfl (op_ia sh89 (by decide) (k := 112) rfl) ?_
  refine Rn_sq srt286 9 1 (pc' := (if (s.1 89 112) ≤ x2 then 74 else 15)) (ls' := [some (.ref 88), some (.int x1), some (.int x2)]) (st' := []) (h1 := (SH, s)) rfl (Rn_if (fun h1 => ?_) (fun h1 => ?_))
  · replace hJ := m_ifp h1 hJ
    refine Rn_sq srt286 46 1 (pc' := 75) (ls' := [some (.ref 88), some (.int x1), some (.int x2)]) (st' := [(.int x1)]) (h1 := (SH, s)) rfl ?_
    rw [← Option.some.inj hJ] at hC
    have hC : r = (some (.int x1), (SH, s)) := hC
    subst hC
    exact Rn_ret srt286 47 rfl rfl rfl
  · replace hJ := m_ifn h1 hJ
    refine Rn_sq srt286 10 5 (pc' := 23) (ls' := [some (.ref 88), some (.int x1), some (.int x2)]) (st' := [(.int ((c8 15) + x2)), (.ref 89)]) (h1 := (SH, s)) rfl ?_
    obtain ⟨h2, hJ⟩ := m_gn hJ
    refine Rn_ev srt286 15 rfl rfl rfl (op_ia sh89 h2 (k := ((c8 15) + x2).toNatClampNeg) rfl) ?_
    refine Rn_sq srt286 16 2 (pc' := (if (s.1 89 ((c8 15) + x2).toNatClampNeg) = (ci (-1)) then 28 else 68)) (ls' := [some (.ref 88), some (.int x1), some (.int x2)]) (st' := []) (h1 := (SH, s)) rfl (Rn_if (fun h3 => ?_) (fun h3 => ?_))
    · replace hJ := m_ifp h3 hJ
      refine Rn_sq srt286 18 5 (pc' := 35) (ls' := [some (.ref 88), some (.int x1), some (.int x2)]) (st' := [(.int ((ci 3) + x2)), (.ref 89)]) (h1 := (SH, s)) rfl ?_
      obtain ⟨h4, hJ⟩ := m_gn hJ
      refine Rn_ev srt286 23 rfl rfl rfl (op_ia sh89 h4 (k := ((ci 3) + x2).toNatClampNeg) rfl) ?_
      refine Rn_sq srt286 24 2 (pc' := (if (s.1 89 ((ci 3) + x2).toNatClampNeg) = (ci 1) then 40 else 68)) (ls' := [some (.ref 88), some (.int x1), some (.int x2)]) (st' := []) (h1 := (SH, s)) rfl (Rn_if (fun h5 => ?_) (fun h5 => ?_))
      · replace hJ := m_ifp h5 hJ
        refine Rn_sq srt286 26 3 (pc' := (if x1 = (ci (-1)) then 66 else 45)) (ls' := [some (.ref 88), some (.int x1), some (.int x2)]) (st' := []) (h1 := (SH, s)) rfl (Rn_if (fun h6 => ?_) (fun h6 => ?_))
        · replace hJ := m_ifp h6 hJ
          exact Rn_weaken (a := [some (.ref 88), none, some (.int x2)]) (b := [some (.ref 88), some (.int x1), some (.int x2)]) (And.intro rfl (And.intro rfl trivial)) rfl (k_X12_thief_66 d hJ hC)
        · replace hJ := m_ifn h6 hJ
          refine Rn_sq srt286 29 5 (pc' := 53) (ls' := [some (.ref 88), some (.int x1), some (.int x2)]) (st' := [(.int ((c8 27) + x2)), (.ref 89)]) (h1 := (SH, s)) rfl ?_
          obtain ⟨h7, hJ⟩ := m_gn hJ
          refine Rn_ev srt286 34 rfl rfl rfl (op_ia sh89 h7 (k := ((c8 27) + x2).toNatClampNeg) rfl) ?_
          refine Rn_sq srt286 35 5 (pc' := 62) (ls' := [some (.ref 88), some (.int x1), some (.int x2)]) (st' := [(.int ((c8 27) + x1)), (.ref 89), (.int (s.1 89 ((c8 27) + x2).toNatClampNeg))]) (h1 := (SH, s)) rfl ?_
          obtain ⟨h8, hJ⟩ := m_gn hJ
          refine Rn_ev srt286 40 rfl rfl rfl (op_ia sh89 h8 (k := ((c8 27) + x1).toNatClampNeg) rfl) ?_
          refine Rn_sq srt286 41 1 (pc' := (if (s.1 89 ((c8 27) + x2).toNatClampNeg) ≤ (s.1 89 ((c8 27) + x1).toNatClampNeg) then 68 else 66)) (ls' := [some (.ref 88), some (.int x1), some (.int x2)]) (st' := []) (h1 := (SH, s)) rfl (Rn_if (fun h9 => ?_) (fun h9 => ?_))
          · replace hJ := m_ifp h9 hJ
            exact (k_X12_thief_68 d hJ hC)
          · replace hJ := m_ifn h9 hJ
            exact Rn_weaken (a := [some (.ref 88), none, some (.int x2)]) (b := [some (.ref 88), some (.int x1), some (.int x2)]) (And.intro rfl (And.intro rfl trivial)) rfl (k_X12_thief_66 d hJ hC)
      · replace hJ := m_ifn h5 hJ
        exact (k_X12_thief_68 d hJ hC)
    · replace hJ := m_ifn h3 hJ
      exact (k_X12_thief_68 d hJ hC)
def F_X12_thief_L4 (s : mG) (x1 : Int32) (x2 : Int32) : Option (Int32) := whl (fun (v : (Int32 × Int32)) => F_X12_thief_B4 s v.1 v.2) (x1, x2)
theorem k_X12_thief_L4 {N : Nat} {xs : Nat → Int32} (d : Nat) {r : Option Value × mH} {s : mG} {x1 : Int32} {x2 : Int32} {τ : (Int32)} (hJ : F_X12_thief_L4 s x1 x2 = some τ) (hC : (fun τ => r = (some (.int τ), (SH, s))) τ) : Rn N xs (d + 0) me286 4 [some (.ref 88), some (.int x1), some (.int x2)] [] (SH, s) r :=
  whl_link (P := fun (v : (Int32 × Int32)) => Rn N xs (d + 0) me286 4 [some (.ref 88), some (.int v.1), some (.int v.2)] [] (SH, s) r) (C := (C_X12_thief_4 N xs s d r (fun τ => r = (some (.int τ), (SH, s))))) (fun v τ h1 h2 => k_X12_thief_B4 d h1 h2) (fun _ h => h) (fun _ h => h) _ _ hJ hC
def F_X12_thief (s : mG) : Option (Int32) :=
  F_X12_thief_L4 s (ci (-1)) (ci 0)
set_option maxRecDepth 4000 in
theorem k_X12_thief_r {N : Nat} {xs : Nat → Int32} (d : Nat) {r : Option Value × mH} {s : mG} {τ : (Int32)} (hJ : F_X12_thief s = some τ) (hC : (fun τ => r = (some (.int τ), (SH, s))) τ) : Rn N xs (d + 0) me286 0 [some (.ref 88), none, none] [] (SH, s) r := by
  unfold F_X12_thief at hJ
  refine Rn_sq srt286 0 4 (pc' := 4) (ls' := [some (.ref 88), some (.int (ci (-1))), some (.int (ci 0))]) (st' := []) (h1 := (SH, s)) rfl ?_
  exact (k_X12_thief_L4 d hJ hC)
theorem k_X12_thief {N : Nat} {xs : Nat → Int32} (d : Nat) {s : mG} {τ : (Int32)} (hJ : F_X12_thief s = some τ) : Rn N xs (d + 0) me286 0 [some (.ref 88), none, none] [] (SH, s) (some (.int τ), (SH, s)) := k_X12_thief_r d hJ rfl
/-! IsHeInModel.ofRoom(II)I -/
theorem srt290 : m_srt mc290 = true := by decide +kernel
def F_X12_ofRoom (s : mG) (a1 : Int32) (a2 : Int32) : Option (Int32) :=
  if (((c16 203) + ((ci 4) * a1)) + a2) < 0 ∨ 1894 ≤ (((c16 203) + ((ci 4) * a1)) + a2).toNatClampNeg then none else
  some (s.1 89 (((c16 203) + ((ci 4) * a1)) + a2).toNatClampNeg)
set_option maxRecDepth 4000 in
theorem k_X12_ofRoom_r {N : Nat} {xs : Nat → Int32} (d : Nat) {r : Option Value × mH} {s : mG} {a1 : Int32} {a2 : Int32} {τ : (Int32)} (hJ : F_X12_ofRoom s a1 a2 = some τ) (hC : (fun τ => r = (some (.int τ), (SH, s))) τ) : Rn N xs (d + 0) me290 0 [some (.ref 88), some (.int a1), some (.int a2)] [] (SH, s) r := by
  unfold F_X12_ofRoom at hJ
  refine Rn_sq srt290 0 9 (pc' := 13) (ls' := [some (.ref 88), some (.int a1), some (.int a2)]) (st' := [(.int (((c16 203) + ((ci 4) * a1)) + a2)), (.ref 89)]) (h1 := (SH, s)) rfl ?_
  obtain ⟨h1, hJ⟩ := m_gn hJ
  refine Rn_ev srt290 9 rfl rfl rfl (op_ia sh89 h1 (k := (((c16 203) + ((ci 4) * a1)) + a2).toNatClampNeg) rfl) ?_
  rw [← Option.some.inj hJ] at hC
  have hC : r = (some (.int (s.1 89 (((c16 203) + ((ci 4) * a1)) + a2).toNatClampNeg)), (SH, s)) := hC
  subst hC
  exact Rn_ret srt290 10 rfl rfl rfl
theorem k_X12_ofRoom {N : Nat} {xs : Nat → Int32} (d : Nat) {s : mG} {a1 : Int32} {a2 : Int32} {τ : (Int32)} (hJ : F_X12_ofRoom s a1 a2 = some τ) : Rn N xs (d + 0) me290 0 [some (.ref 88), some (.int a1), some (.int a2)] [] (SH, s) (some (.int τ), (SH, s)) := k_X12_ofRoom_r d hJ rfl
/-! IsHeInModel.isKnockedAhead(II)Z -/
theorem srt287 : m_srt mc287 = true := by decide +kernel
def F_X12_isKnockedAhead_42 (s : mG) : Option (Int32 × mG) :=
  some ((ci 1), s)
set_option maxRecDepth 4000 in
theorem k_X12_isKnockedAhead_42 {N : Nat} {xs : Nat → Int32} (d : Nat) {r : Option Value × mH} {s : mG} {τ : (Int32 × mG)} (hJ : F_X12_isKnockedAhead_42 s = some τ) (hC : (fun τ => r = (some (.int τ.1), (SH, τ.2))) τ) : Rn N xs (d + 6) me287 42 [none, none, none, none, none, none, none] [] (SH, s) r := by
  unfold F_X12_isKnockedAhead_42 at hJ
  refine Rn_sq srt287 25 2 (pc' := 47) (ls' := [none, none, none, none, none, none, none]) (st' := [(.int (ci 1))]) (h1 := (SH, s)) rfl ?_
  rw [← Option.some.inj hJ] at hC
  have hC : r = (some (.int (ci 1)), (SH, s)) := hC
  subst hC
  exact Rn_ret srt287 28 rfl rfl (m_ret_b rfl (by decide))
def F_X12_isKnockedAhead_46 (s : mG) : Option (Int32 × mG) :=
  some ((ci 0), s)
set_option maxRecDepth 4000 in
theorem k_X12_isKnockedAhead_46 {N : Nat} {xs : Nat → Int32} (d : Nat) {r : Option Value × mH} {s : mG} {τ : (Int32 × mG)} (hJ : F_X12_isKnockedAhead_46 s = some τ) (hC : (fun τ => r = (some (.int τ.1), (SH, τ.2))) τ) : Rn N xs (d + 6) me287 46 [none, none, none, none, none, none, none] [] (SH, s) r := by
  unfold F_X12_isKnockedAhead_46 at hJ
  refine Rn_sq srt287 27 1 (pc' := 47) (ls' := [none, none, none, none, none, none, none]) (st' := [(.int (ci 0))]) (h1 := (SH, s)) rfl ?_
  rw [← Option.some.inj hJ] at hC
  have hC : r = (some (.int (ci 0)), (SH, s)) := hC
  subst hC
  exact Rn_ret srt287 28 rfl rfl (m_ret_b rfl (by decide))
def F_X12_isKnockedAhead (a1 : Int32) (a2 : Int32) (s : mG) : Option (Int32 × mG) :=
  b1 (F_X12_ofRoom s a1 (ci 0)) fun v2 =>
  b2 (F_X12_sureOf v2 s) fun v5 s4 =>
  b1 (F_X12_ofRoom s4 a2 (ci 0)) fun v7 =>
  b2 (F_X12_sureOf v7 s4) fun v10 s9 =>
  if (lg_cmp v5 v10) < 0 then
    F_X12_isKnockedAhead_42 s9
  else
    if (lg_cmp v5 v10) = 0 then
      if a2 ≤ a1 then
        F_X12_isKnockedAhead_46 s9
      else
        F_X12_isKnockedAhead_42 s9
    else
      F_X12_isKnockedAhead_46 s9
set_option maxRecDepth 4000 in
theorem k_X12_isKnockedAhead_r {N : Nat} {xs : Nat → Int32} (d : Nat) {r : Option Value × mH} {s : mG} {a1 : Int32} {a2 : Int32} {τ : (Int32 × mG)} (hJ : F_X12_isKnockedAhead a1 a2 s = some τ) (hC : (fun τ => r = (some (.int τ.1), (SH, τ.2))) τ) : Rn N xs (d + 6) me287 0 [some (.ref 88), some (.int a1), some (.int a2), none, none, none, none] [] (SH, s) r := by
  unfold F_X12_isKnockedAhead at hJ
  refine Rn_sq srt287 0 4 (pc' := 4) (ls' := [some (.ref 88), some (.int a1), some (.int a2), none, none, none, none]) (st' := [(.int (ci 0)), (.int a1), (.ref 88), (.ref 88)]) (h1 := (SH, s)) rfl ?_
  obtain ⟨v2, h1, hJ⟩ := m_b1 hJ
  refine Rn_call srt287 4 rfl rfl rfl ⟨Nat.le_of_ble_eq_true rfl, Nat.le_of_ble_eq_true rfl, rfl, Nat.le_of_ble_eq_true rfl⟩ (k_X12_ofRoom (d + 5) h1) (show Rn N xs (d + 6) me287 7 [some (.ref 88), some (.int a1), some (.int a2), none, none, none, none] [(.int v2), (.ref 88)] (SH, s) r from ?_)
  obtain ⟨v5, s4, h3, hJ⟩ := m_b2 hJ
  refine Rn_call srt287 5 rfl rfl rfl ⟨Nat.le_of_ble_eq_true rfl, Nat.le_of_ble_eq_true rfl, rfl, Nat.le_of_ble_eq_true rfl⟩ (k_X12_sureOf (d) h3) (show Rn N xs (d + 6) me287 10 [some (.ref 88), some (.int a1), some (.int a2), none, none, none, none] [(.long v5)] (SH, s4) r from ?_)
  refine Rn_sq srt287 6 5 (pc' := 15) (ls' := [some (.ref 88), some (.int a1), some (.int a2), some (.long v5), none, none, none]) (st' := [(.int (ci 0)), (.int a2), (.ref 88), (.ref 88)]) (h1 := (SH, s4)) rfl ?_
  obtain ⟨v7, h6, hJ⟩ := m_b1 hJ
  refine Rn_call srt287 11 rfl rfl rfl ⟨Nat.le_of_ble_eq_true rfl, Nat.le_of_ble_eq_true rfl, rfl, Nat.le_of_ble_eq_true rfl⟩ (k_X12_ofRoom (d + 5) h6) (show Rn N xs (d + 6) me287 18 [some (.ref 88), some (.int a1), some (.int a2), some (.long v5), none, none, none] [(.int v7), (.ref 88)] (SH, s4) r from ?_)
  obtain ⟨v10, s9, h8, hJ⟩ := m_b2 hJ
  refine Rn_call srt287 12 rfl rfl rfl ⟨Nat.le_of_ble_eq_true rfl, Nat.le_of_ble_eq_true rfl, rfl, Nat.le_of_ble_eq_true rfl⟩ (k_X12_sureOf (d) h8) (show Rn N xs (d + 6) me287 21 [some (.ref 88), some (.int a1), some (.int a2), some (.long v5), none, none, none] [(.long v10)] (SH, s9) r from ?_)
  refine Rn_sq srt287 13 5 (pc' := (if (lg_cmp v5 v10) < 0 then 42 else 30)) (ls' := [some (.ref 88), some (.int a1), some (.int a2), some (.long v5), none, some (.long v10), none]) (st' := []) (h1 := (SH, s9)) rfl (Rn_if (fun h11 => ?_) (fun h11 => ?_))
  · replace hJ := m_ifp h11 hJ
    exact Rn_weaken (a := [none, none, none, none, none, none, none]) (b := [some (.ref 88), some (.int a1), some (.int a2), some (.long v5), none, some (.long v10), none]) trivial rfl (k_X12_isKnockedAhead_42 d hJ hC)
  · replace hJ := m_ifn h11 hJ
    refine Rn_sq srt287 18 4 (pc' := (if (lg_cmp v5 v10) = 0 then 37 else 46)) (ls' := [some (.ref 88), some (.int a1), some (.int a2), some (.long v5), none, some (.long v10), none]) (st' := []) (h1 := (SH, s9)) rfl (Rn_if (fun h12 => ?_) (fun h12 => ?_))
    · replace hJ := m_ifp h12 hJ
      refine Rn_sq srt287 22 3 (pc' := (if a2 ≤ a1 then 46 else 42)) (ls' := [some (.ref 88), some (.int a1), some (.int a2), some (.long v5), none, some (.long v10), none]) (st' := []) (h1 := (SH, s9)) rfl (Rn_if (fun h13 => ?_) (fun h13 => ?_))
      · replace hJ := m_ifp h13 hJ
        exact Rn_weaken (a := [none, none, none, none, none, none, none]) (b := [some (.ref 88), some (.int a1), some (.int a2), some (.long v5), none, some (.long v10), none]) trivial rfl (k_X12_isKnockedAhead_46 d hJ hC)
      · replace hJ := m_ifn h13 hJ
        exact Rn_weaken (a := [none, none, none, none, none, none, none]) (b := [some (.ref 88), some (.int a1), some (.int a2), some (.long v5), none, some (.long v10), none]) trivial rfl (k_X12_isKnockedAhead_42 d hJ hC)
    · replace hJ := m_ifn h12 hJ
      exact Rn_weaken (a := [none, none, none, none, none, none, none]) (b := [some (.ref 88), some (.int a1), some (.int a2), some (.long v5), none, some (.long v10), none]) trivial rfl (k_X12_isKnockedAhead_46 d hJ hC)
theorem k_X12_isKnockedAhead {N : Nat} {xs : Nat → Int32} (d : Nat) {s : mG} {a1 : Int32} {a2 : Int32} {τ : (Int32 × mG)} (hJ : F_X12_isKnockedAhead a1 a2 s = some τ) : Rn N xs (d + 6) me287 0 [some (.ref 88), some (.int a1), some (.int a2), none, none, none, none] [] (SH, s) (some (.int τ.1), (SH, τ.2)) := k_X12_isKnockedAhead_r d hJ rfl
/-! IsHeInModel.knocks(I)I -/
theorem srt288 : m_srt mc288 = true := by decide +kernel
def C_X12_knocks_2 (N : Nat) (xs : Nat → Int32) (d : Nat) (r : Option Value × mH) (C : (Int32 × mG) → Prop) : ((Int32 × Int32 × mG) ⊕ (Int32 × mG)) → Prop
  | .inl v => Rn N xs (d + 7) me288 2 [some (.ref 88), some (.int v.1), some (.int v.2.1), none, none] [] (SH, v.2.2) r
  | .inr a => C a
def C_X12_knocks_18 (N : Nat) (xs : Nat → Int32) (d : Nat) (r : Option Value × mH) (C : ((Int32 × Int32 × mG) ⊕ (Int32 × mG)) → Prop) : ((Int32 × Int32 × Int32 × Int32 × mG) ⊕ ((Int32 × Int32 × mG) ⊕ (Int32 × mG))) → Prop
  | .inl v => Rn N xs (d + 7) me288 18 [some (.ref 88), some (.int v.1), some (.int v.2.1), some (.int v.2.2.1), some (.int v.2.2.2.1)] [] (SH, v.2.2.2.2) r
  | .inr a => C a
def F_X12_knocks_52 (x1 : Int32) (x2 : Int32) (x4 : Int32) (y0 : Int32) (y1 : Int32) (s : mG) : Option ((Int32 × Int32 × Int32 × Int32 × mG) ⊕ ((Int32 × Int32 × mG) ⊕ (Int32 × mG))) :=
  some (Sum.inl (x1, x2, (y0 + y1), (x4 + ci 1), s))
set_option maxRecDepth 4000 in
theorem k_X12_knocks_52 {N : Nat} {xs : Nat → Int32} (d : Nat) {r : Option Value × mH} {s : mG} {x1 : Int32} {x2 : Int32} {x4 : Int32} {y0 : Int32} {y1 : Int32} {τ : ((Int32 × Int32 × Int32 × Int32 × mG) ⊕ ((Int32 × Int32 × mG) ⊕ (Int32 × mG)))} (hJ : F_X12_knocks_52 x1 x2 x4 y0 y1 s = some τ) (hC : (C_X12_knocks_18 N xs d r (C_X12_knocks_2 N xs d r (fun τ => r = (some (.int τ.1), (SH, τ.2))))) τ) : Rn N xs (d + 7) me288 52 [some (.ref 88), some (.int x1), some (.int x2), none, some (.int x4)] [(.int y1), (.int y0)] (SH, s) r := by
  unfold F_X12_knocks_52 at hJ
  refine Rn_sq srt288 30 4 (pc' := 18) (ls' := [some (.ref 88), some (.int x1), some (.int x2), some (.int (y0 + y1)), some (.int (x4 + ci 1))]) (st' := []) (h1 := (SH, s)) rfl ?_
  rw [← Option.some.inj hJ] at hC
  exact hC
def F_X12_knocks_51 (x1 : Int32) (x2 : Int32) (x4 : Int32) (y0 : Int32) (s : mG) : Option ((Int32 × Int32 × Int32 × Int32 × mG) ⊕ ((Int32 × Int32 × mG) ⊕ (Int32 × mG))) :=
  F_X12_knocks_52 x1 x2 x4 y0 (ci 0) s
set_option maxRecDepth 4000 in
theorem k_X12_knocks_51 {N : Nat} {xs : Nat → Int32} (d : Nat) {r : Option Value × mH} {s : mG} {x1 : Int32} {x2 : Int32} {x4 : Int32} {y0 : Int32} {τ : ((Int32 × Int32 × Int32 × Int32 × mG) ⊕ ((Int32 × Int32 × mG) ⊕ (Int32 × mG)))} (hJ : F_X12_knocks_51 x1 x2 x4 y0 s = some τ) (hC : (C_X12_knocks_18 N xs d r (C_X12_knocks_2 N xs d r (fun τ => r = (some (.int τ.1), (SH, τ.2))))) τ) : Rn N xs (d + 7) me288 51 [some (.ref 88), some (.int x1), some (.int x2), none, some (.int x4)] [(.int y0)] (SH, s) r := by
  unfold F_X12_knocks_51 at hJ
  refine Rn_sq srt288 29 1 (pc' := 52) (ls' := [some (.ref 88), some (.int x1), some (.int x2), none, some (.int x4)]) (st' := [(.int (ci 0)), (.int y0)]) (h1 := (SH, s)) rfl ?_
  exact (k_X12_knocks_52 d hJ hC)
def F_X12_knocks_B18 (x1 : Int32) (x2 : Int32) (x3 : Int32) (x4 : Int32) (s : mG) : Option ((Int32 × Int32 × Int32 × Int32 × mG) ⊕ ((Int32 × Int32 × mG) ⊕ (Int32 × mG))) :=
  if (s.1 89 118) ≤ x4 then
    if x3 = x1 then
      some (Sum.inr (Sum.inr (x2, s)))
    else
      some (Sum.inr (Sum.inl (x1, (x2 + ci 1), s)))
  else
    if x4 = x2 then
      F_X12_knocks_51 x1 x2 x4 x3 s
    else
      b2 (F_X12_isKnockedAhead x4 x2 s) fun v7 s6 =>
      if v7 = 0 then
        F_X12_knocks_51 x1 x2 x4 x3 s6
      else
        F_X12_knocks_52 x1 x2 x4 x3 (ci 1) s6
set_option maxRecDepth 4000 in
theorem k_X12_knocks_B18 {N : Nat} {xs : Nat → Int32} (d : Nat) {r : Option Value × mH} {s : mG} {x1 : Int32} {x2 : Int32} {x3 : Int32} {x4 : Int32} {τ : ((Int32 × Int32 × Int32 × Int32 × mG) ⊕ ((Int32 × Int32 × mG) ⊕ (Int32 × mG)))} (hJ : F_X12_knocks_B18 x1 x2 x3 x4 s = some τ) (hC : (C_X12_knocks_18 N xs d r (C_X12_knocks_2 N xs d r (fun τ => r = (some (.int τ.1), (SH, τ.2))))) τ) : Rn N xs (d + 7) me288 18 [some (.ref 88), some (.int x1), some (.int x2), some (.int x3), some (.int x4)] [] (SH, s) r := by
  unfold F_X12_knocks_B18 at hJ
  refine Rn_sq srt288 12 4 (pc' := 26) (ls' := [some (.ref 88), some (.int x1), some (.int x2), some (.int x3), some (.int x4)]) (st' := [(.int (c8 118)), (.ref 89), (.int x4)]) (h1 := (SH, s)) rfl ?_
  refine Rn_ev srt288 16 rfl rfl rfl (op_ia sh89 (by decide) (k := 118) rfl) ?_
  refine Rn_sq srt288 17 1 (pc' := (if (s.1 89 118) ≤ x4 then 60 else 30)) (ls' := [some (.ref 88), some (.int x1), some (.int x2), some (.int x3), some (.int x4)]) (st' := []) (h1 := (SH, s)) rfl (Rn_if (fun h2 => ?_) (fun h2 => ?_))
  · replace hJ := m_ifp h2 hJ
    refine Rn_sq srt288 34 3 (pc' := (if x3 = x1 then 65 else 67)) (ls' := [some (.ref 88), some (.int x1), some (.int x2), some (.int x3), some (.int x4)]) (st' := []) (h1 := (SH, s)) rfl (Rn_if (fun h3 => ?_) (fun h3 => ?_))
    · replace hJ := m_ifp h3 hJ
      refine Rn_sq srt288 37 1 (pc' := 66) (ls' := [some (.ref 88), some (.int x1), some (.int x2), some (.int x3), some (.int x4)]) (st' := [(.int x2)]) (h1 := (SH, s)) rfl ?_
      rw [← Option.some.inj hJ] at hC
      have hC : r = (some (.int x2), (SH, s)) := hC
      subst hC
      exact Rn_ret srt288 38 rfl rfl rfl
    · replace hJ := m_ifn h3 hJ
      refine Rn_sq srt288 39 2 (pc' := 2) (ls' := [some (.ref 88), some (.int x1), some (.int (x2 + ci 1)), some (.int x3), some (.int x4)]) (st' := []) (h1 := (SH, s)) rfl ?_
      rw [← Option.some.inj hJ] at hC
      exact Rn_weaken (a := [some (.ref 88), some (.int x1), some (.int (x2 + ci 1)), none, none]) (b := [some (.ref 88), some (.int x1), some (.int (x2 + ci 1)), some (.int x3), some (.int x4)]) (And.intro rfl (And.intro rfl (And.intro rfl trivial))) rfl hC
  · replace hJ := m_ifn h2 hJ
    refine Rn_sq srt288 18 4 (pc' := (if x4 = x2 then 51 else 37)) (ls' := [some (.ref 88), some (.int x1), some (.int x2), some (.int x3), some (.int x4)]) (st' := [(.int x3)]) (h1 := (SH, s)) rfl (Rn_if (fun h4 => ?_) (fun h4 => ?_))
    · replace hJ := m_ifp h4 hJ
      exact Rn_weaken (a := [some (.ref 88), some (.int x1), some (.int x2), none, some (.int x4)]) (b := [some (.ref 88), some (.int x1), some (.int x2), some (.int x3), some (.int x4)]) (And.intro rfl (And.intro rfl (And.intro rfl (And.intro rfl trivial)))) rfl (k_X12_knocks_51 d hJ hC)
    · replace hJ := m_ifn h4 hJ
      refine Rn_sq srt288 22 3 (pc' := 41) (ls' := [some (.ref 88), some (.int x1), some (.int x2), some (.int x3), some (.int x4)]) (st' := [(.int x2), (.int x4), (.ref 88), (.int x3)]) (h1 := (SH, s)) rfl ?_
      obtain ⟨v7, s6, h5, hJ⟩ := m_b2 hJ
      refine Rn_call srt288 25 rfl rfl rfl ⟨Nat.le_of_ble_eq_true rfl, Nat.le_of_ble_eq_true rfl, rfl, Nat.le_of_ble_eq_true rfl⟩ (k_X12_isKnockedAhead (d) h5) (show Rn N xs (d + 7) me288 44 [some (.ref 88), some (.int x1), some (.int x2), some (.int x3), some (.int x4)] [(.int v7), (.int x3)] (SH, s6) r from ?_)
      refine Rn_sq srt288 26 1 (pc' := (if v7 = 0 then 51 else 47)) (ls' := [some (.ref 88), some (.int x1), some (.int x2), some (.int x3), some (.int x4)]) (st' := [(.int x3)]) (h1 := (SH, s6)) rfl (Rn_if (fun h8 => ?_) (fun h8 => ?_))
      · replace hJ := m_ifp h8 hJ
        exact Rn_weaken (a := [some (.ref 88), some (.int x1), some (.int x2), none, some (.int x4)]) (b := [some (.ref 88), some (.int x1), some (.int x2), some (.int x3), some (.int x4)]) (And.intro rfl (And.intro rfl (And.intro rfl (And.intro rfl trivial)))) rfl (k_X12_knocks_51 d hJ hC)
      · replace hJ := m_ifn h8 hJ
        refine Rn_sq srt288 27 2 (pc' := 52) (ls' := [some (.ref 88), some (.int x1), some (.int x2), some (.int x3), some (.int x4)]) (st' := [(.int (ci 1)), (.int x3)]) (h1 := (SH, s6)) rfl ?_
        exact Rn_weaken (a := [some (.ref 88), some (.int x1), some (.int x2), none, some (.int x4)]) (b := [some (.ref 88), some (.int x1), some (.int x2), some (.int x3), some (.int x4)]) (And.intro rfl (And.intro rfl (And.intro rfl (And.intro rfl trivial)))) rfl (k_X12_knocks_52 d hJ hC)
def F_X12_knocks_L18 (x1 : Int32) (x2 : Int32) (x3 : Int32) (x4 : Int32) (s : mG) : Option ((Int32 × Int32 × mG) ⊕ (Int32 × mG)) := whl (fun (v : (Int32 × Int32 × Int32 × Int32 × mG)) => F_X12_knocks_B18 v.1 v.2.1 v.2.2.1 v.2.2.2.1 v.2.2.2.2) (x1, x2, x3, x4, s)
theorem k_X12_knocks_L18 {N : Nat} {xs : Nat → Int32} (d : Nat) {r : Option Value × mH} {s : mG} {x1 : Int32} {x2 : Int32} {x3 : Int32} {x4 : Int32} {τ : ((Int32 × Int32 × mG) ⊕ (Int32 × mG))} (hJ : F_X12_knocks_L18 x1 x2 x3 x4 s = some τ) (hC : (C_X12_knocks_2 N xs d r (fun τ => r = (some (.int τ.1), (SH, τ.2)))) τ) : Rn N xs (d + 7) me288 18 [some (.ref 88), some (.int x1), some (.int x2), some (.int x3), some (.int x4)] [] (SH, s) r :=
  whl_link (P := fun (v : (Int32 × Int32 × Int32 × Int32 × mG)) => Rn N xs (d + 7) me288 18 [some (.ref 88), some (.int v.1), some (.int v.2.1), some (.int v.2.2.1), some (.int v.2.2.2.1)] [] (SH, v.2.2.2.2) r) (C := (C_X12_knocks_18 N xs d r (C_X12_knocks_2 N xs d r (fun τ => r = (some (.int τ.1), (SH, τ.2)))))) (fun v τ h1 h2 => k_X12_knocks_B18 d h1 h2) (fun _ h => h) (fun _ h => h) _ _ hJ hC
def F_X12_knocks_B2 (x1 : Int32) (x2 : Int32) (s : mG) : Option ((Int32 × Int32 × mG) ⊕ (Int32 × mG)) :=
  if (s.1 89 118) ≤ x2 then
    some (Sum.inr ((ci (-1)), s))
  else
    F_X12_knocks_L18 x1 x2 (ci 0) (ci 0) s
set_option maxRecDepth 4000 in
theorem k_X12_knocks_B2 {N : Nat} {xs : Nat → Int32} (d : Nat) {r : Option Value × mH} {s : mG} {x1 : Int32} {x2 : Int32} {τ : ((Int32 × Int32 × mG) ⊕ (Int32 × mG))} (hJ : F_X12_knocks_B2 x1 x2 s = some τ) (hC : (C_X12_knocks_2 N xs d r (fun τ => r = (some (.int τ.1), (SH, τ.2)))) τ) : Rn N xs (d + 7) me288 2 [some (.ref 88), some (.int x1), some (.int x2), none, none] [] (SH, s) r := by
  unfold F_X12_knocks_B2 at hJ
  refine Rn_sq srt288 2 4 (pc' := 9) (ls' := [some (.ref 88), some (.int x1), some (.int x2), none, none]) (st' := [(.int (c8 118)), (.ref 89), (.int x2)]) (h1 := (SH, s)) rfl ?_
  refine Rn_ev srt288 6 rfl rfl rfl (op_ia sh89 (by decide) (k := 118) rfl) ?_
  refine Rn_sq srt288 7 1 (pc' := (if (s.1 89 118) ≤ x2 then 73 else 13)) (ls' := [some (.ref 88), some (.int x1), some (.int x2), none, none]) (st' := []) (h1 := (SH, s)) rfl (Rn_if (fun h1 => ?_) (fun h1 => ?_))
  · replace hJ := m_ifp h1 hJ
    refine Rn_sq srt288 41 1 (pc' := 74) (ls' := [some (.ref 88), some (.int x1), some (.int x2), none, none]) (st' := [(.int (ci (-1)))]) (h1 := (SH, s)) rfl ?_
    rw [← Option.some.inj hJ] at hC
    have hC : r = (some (.int (ci (-1))), (SH, s)) := hC
    subst hC
    exact Rn_ret srt288 42 rfl rfl rfl
  · replace hJ := m_ifn h1 hJ
    refine Rn_sq srt288 8 4 (pc' := 18) (ls' := [some (.ref 88), some (.int x1), some (.int x2), some (.int (ci 0)), some (.int (ci 0))]) (st' := []) (h1 := (SH, s)) rfl ?_
    exact (k_X12_knocks_L18 d hJ hC)
def F_X12_knocks_L2 (x1 : Int32) (x2 : Int32) (s : mG) : Option (Int32 × mG) := whl (fun (v : (Int32 × Int32 × mG)) => F_X12_knocks_B2 v.1 v.2.1 v.2.2) (x1, x2, s)
theorem k_X12_knocks_L2 {N : Nat} {xs : Nat → Int32} (d : Nat) {r : Option Value × mH} {s : mG} {x1 : Int32} {x2 : Int32} {τ : (Int32 × mG)} (hJ : F_X12_knocks_L2 x1 x2 s = some τ) (hC : (fun τ => r = (some (.int τ.1), (SH, τ.2))) τ) : Rn N xs (d + 7) me288 2 [some (.ref 88), some (.int x1), some (.int x2), none, none] [] (SH, s) r :=
  whl_link (P := fun (v : (Int32 × Int32 × mG)) => Rn N xs (d + 7) me288 2 [some (.ref 88), some (.int v.1), some (.int v.2.1), none, none] [] (SH, v.2.2) r) (C := (C_X12_knocks_2 N xs d r (fun τ => r = (some (.int τ.1), (SH, τ.2))))) (fun v τ h1 h2 => k_X12_knocks_B2 d h1 h2) (fun _ h => h) (fun _ h => h) _ _ hJ hC
def F_X12_knocks (a1 : Int32) (s : mG) : Option (Int32 × mG) :=
  F_X12_knocks_L2 a1 (ci 0) s
set_option maxRecDepth 4000 in
theorem k_X12_knocks_r {N : Nat} {xs : Nat → Int32} (d : Nat) {r : Option Value × mH} {s : mG} {a1 : Int32} {τ : (Int32 × mG)} (hJ : F_X12_knocks a1 s = some τ) (hC : (fun τ => r = (some (.int τ.1), (SH, τ.2))) τ) : Rn N xs (d + 7) me288 0 [some (.ref 88), some (.int a1), none, none, none] [] (SH, s) r := by
  unfold F_X12_knocks at hJ
  refine Rn_sq srt288 0 2 (pc' := 2) (ls' := [some (.ref 88), some (.int a1), some (.int (ci 0)), none, none]) (st' := []) (h1 := (SH, s)) rfl ?_
  exact (k_X12_knocks_L2 d hJ hC)
theorem k_X12_knocks {N : Nat} {xs : Nat → Int32} (d : Nat) {s : mG} {a1 : Int32} {τ : (Int32 × mG)} (hJ : F_X12_knocks a1 s = some τ) : Rn N xs (d + 7) me288 0 [some (.ref 88), some (.int a1), none, none, none] [] (SH, s) (some (.int τ.1), (SH, τ.2)) := k_X12_knocks_r d hJ rfl
end
